-- the worlds: the class's (cw) and the reference's (mw)
def bI (b : Bool) : Int32 := if b = true then 1 else 0
theorem bI_nar (b : Bool) : vp_nar .boolean (bI b) = bI b := by cases b <;> rfl
theorem bI_nrw (b : Bool) : narrow .boolean (.int (bI b)) = .int (bI b) := by cases b <;> rfl
theorem bI_fit (b : Bool) : fits .boolean (.int (bI b)) = true := by cases b <;> rfl
theorem bI_0 (b : Bool) : bI b = 0 ↔ b = false := by cases b <;> decide
theorem bI_inj {a b : Bool} : bI a = bI b ↔ a = b := by cases a <;> cases b <;> decide
abbrev rwL (G : gG) (f : Nat → Int64) : va_E := .inl (G.2 1, 16, .inr (.inl f))
abbrev rwZ (G : gG) (f : Nat → Bool) : va_E := .inl (G.2 2, 1024, .inl (fun x => bI (f x)))
def cw (G : gG) (a : Nat → Nat) (hd : Nat → Nat → Int64) (wk sp : Nat → Int64) (ct : Int32) (ky nm : Nat → Int32) : va_W :=
  (a 0, .inr (0, [.ref (a 1), .ref (a 2), .ref (a 3), .ref (a 4)])) :: (a 1, .inl (G.2 3, 16, .inr (.inr (.inr (.inr (fun i => if i < 16 then some (a (7 + i)) else none)))))) ::
  (a 2, rwL G wk) :: (a 3, rwL G sp) :: (a 4, .inr (1, [.ref (a 5), .ref (a 6), .int ct])) :: (a 5, .inl (G.2 0, 4096, .inl ky)) :: (a 6, .inl (G.2 0, 1024, .inl nm)) ::
  (List.range 16).map (fun i => (a (7 + i), rwL G (hd i)))
def mw (G : gG) (b : Nat → Nat) (th : Int32) (rg : Nat → Nat → Bool) (wk : Nat → Bool) (fi fa : Nat → Int32) : va_W :=
  (b 0, .inr (2, [.int th, .ref (b 1), .ref (b 2), .ref (b 3), .ref (b 4)])) :: (b 1, .inl (G.2 4, 16, .inr (.inr (.inr (.inr (fun i => if i < 16 then some (b (5 + i)) else none)))))) ::
  (b 2, rwZ G wk) :: (b 3, .inl (G.2 0, 16384, .inl fi)) :: (b 4, .inl (G.2 0, 16384, .inl fa)) ::
  (List.range 16).map (fun i => (b (5 + i), rwZ G (rg i)))
theorem rg_get {α : Type} (f : Nat → α) {r n : Nat} (hr : r < n) : ((List.range n).map f)[r]? = some (f r) := by
  rw [List.getElem?_map, List.getElem?_range hr]; rfl
theorem rg_set {α : Type} (f g : Nat → α) {r n : Nat} (hg : ∀ i, i ≠ r → g i = f i) : ((List.range n).map f).set r (g r) = (List.range n).map g := by
  apply List.ext_getElem?
  intro i
  rw [List.getElem?_set, List.length_map, List.length_range]
  by_cases h : r = i
  · subst h
    rw [if_pos rfl]
    by_cases h2 : r < n
    · rw [if_pos h2, rg_get g h2]
    · rw [if_neg h2]
      symm
      exact List.getElem?_eq_none (by simp; omega)
  · rw [if_neg h]
    by_cases h2 : i < n
    · rw [rg_get f h2, rg_get g h2, hg i (fun q => h q.symm)]
    · rw [List.getElem?_eq_none (by simp; omega), List.getElem?_eq_none (by simp; omega)]
section CW
variable {G : gG} {a : Nat → Nat} {hd : Nat → Nat → Int64} {wk sp : Nat → Int64} {ct : Int32} {ky nm : Nat → Int32}
theorem cw_0 : (cw G a hd wk sp ct ky nm)[0]? = some (a 0, .inr (0, [.ref (a 1), .ref (a 2), .ref (a 3), .ref (a 4)])) := rfl
theorem cw_1 : (cw G a hd wk sp ct ky nm)[1]? = some (a 1, .inl (G.2 3, 16, .inr (.inr (.inr (.inr (fun i => if i < 16 then some (a (7 + i)) else none)))))) := rfl
theorem cw_2 : (cw G a hd wk sp ct ky nm)[2]? = some (a 2, rwL G wk) := rfl
theorem cw_3 : (cw G a hd wk sp ct ky nm)[3]? = some (a 3, rwL G sp) := rfl
theorem cw_4 : (cw G a hd wk sp ct ky nm)[4]? = some (a 4, .inr (1, [.ref (a 5), .ref (a 6), .int ct])) := rfl
theorem cw_5 : (cw G a hd wk sp ct ky nm)[5]? = some (a 5, .inl (G.2 0, 4096, .inl ky)) := rfl
theorem cw_6 : (cw G a hd wk sp ct ky nm)[6]? = some (a 6, .inl (G.2 0, 1024, .inl nm)) := rfl
theorem cw_r {r : Nat} (hr : r < 16) : (cw G a hd wk sp ct ky nm)[7 + r]? = some (a (7 + r), rwL G (hd r)) := by
  rw [Nat.add_comm 7 r]
  exact rg_get (fun i => (a (7 + i), rwL G (hd i))) hr |>.trans (by rw [Nat.add_comm r 7])
theorem cw_s2 {f : Nat → Int64} : (cw G a hd wk sp ct ky nm).set 2 (a 2, rwL G f) = cw G a hd f sp ct ky nm := rfl
theorem cw_s3 {f : Nat → Int64} : (cw G a hd wk sp ct ky nm).set 3 (a 3, rwL G f) = cw G a hd wk f ct ky nm := rfl
theorem cw_s4 {z : Int32} : (cw G a hd wk sp ct ky nm).set 4 (a 4, .inr (1, [.ref (a 5), .ref (a 6), .int z])) = cw G a hd wk sp z ky nm := rfl
theorem cw_s5 {f : Nat → Int32} : (cw G a hd wk sp ct ky nm).set 5 (a 5, .inl (G.2 0, 4096, .inl f)) = cw G a hd wk sp ct f nm := rfl
theorem cw_s6 {f : Nat → Int32} : (cw G a hd wk sp ct ky nm).set 6 (a 6, .inl (G.2 0, 1024, .inl f)) = cw G a hd wk sp ct ky f := rfl
theorem cw_sr {r : Nat} {f : Nat → Int64} : (cw G a hd wk sp ct ky nm).set (7 + r) (a (7 + r), rwL G f) = cw G a (va_up hd r f) wk sp ct ky nm := by
  rw [Nat.add_comm 7 r]
  show _ :: _ :: _ :: _ :: _ :: _ :: _ :: ((List.range 16).map (fun i => (a (7 + i), rwL G (hd i)))).set r (a (r + 7), rwL G f) = _
  have h := rg_set (n := 16) (r := r) (fun i => (a (7 + i), rwL G (hd i))) (fun i => (a (7 + i), rwL G (va_up hd r f i))) (fun i hi => by simp [va_up, hi])
  have h2 : va_up hd r f r = f := by simp [va_up]
  simp only [h2] at h
  rw [Nat.add_comm r 7, h]
  rfl
theorem cw_adr {hd' : Nat → Nat → Int64} {wk' sp' : Nat → Int64} {ct' : Int32} {ky' nm' : Nat → Int32} : (cw G a hd' wk' sp' ct' ky' nm').map Prod.fst = (cw G a hd wk sp ct ky nm).map Prod.fst := rfl
theorem cw_o {r : Nat} (hr : r < 16) : (fun i => if i < 16 then some (a (7 + i)) else none) r = some (a (7 + r)) := if_pos hr
end CW
section MW
variable {G : gG} {b : Nat → Nat} {th : Int32} {rg : Nat → Nat → Bool} {wk : Nat → Bool} {fi fa : Nat → Int32}
theorem mw_0 : (mw G b th rg wk fi fa)[0]? = some (b 0, .inr (2, [.int th, .ref (b 1), .ref (b 2), .ref (b 3), .ref (b 4)])) := rfl
theorem mw_1 : (mw G b th rg wk fi fa)[1]? = some (b 1, .inl (G.2 4, 16, .inr (.inr (.inr (.inr (fun i => if i < 16 then some (b (5 + i)) else none)))))) := rfl
theorem mw_2 : (mw G b th rg wk fi fa)[2]? = some (b 2, rwZ G wk) := rfl
theorem mw_3 : (mw G b th rg wk fi fa)[3]? = some (b 3, .inl (G.2 0, 16384, .inl fi)) := rfl
theorem mw_4 : (mw G b th rg wk fi fa)[4]? = some (b 4, .inl (G.2 0, 16384, .inl fa)) := rfl
theorem mw_r {r : Nat} (hr : r < 16) : (mw G b th rg wk fi fa)[5 + r]? = some (b (5 + r), rwZ G (rg r)) := by
  rw [Nat.add_comm 5 r]
  exact rg_get (fun i => (b (5 + i), rwZ G (rg i))) hr |>.trans (by rw [Nat.add_comm r 5])
theorem mw_s0 {z : Int32} : (mw G b th rg wk fi fa).set 0 (b 0, .inr (2, [.int z, .ref (b 1), .ref (b 2), .ref (b 3), .ref (b 4)])) = mw G b z rg wk fi fa := rfl
theorem mw_s2 {f : Nat → Bool} : (mw G b th rg wk fi fa).set 2 (b 2, rwZ G f) = mw G b th rg f fi fa := rfl
theorem mw_s3 {f : Nat → Int32} : (mw G b th rg wk fi fa).set 3 (b 3, .inl (G.2 0, 16384, .inl f)) = mw G b th rg wk f fa := rfl
theorem mw_s4 {f : Nat → Int32} : (mw G b th rg wk fi fa).set 4 (b 4, .inl (G.2 0, 16384, .inl f)) = mw G b th rg wk fi f := rfl
theorem mw_sr {r : Nat} {f : Nat → Bool} : (mw G b th rg wk fi fa).set (5 + r) (b (5 + r), rwZ G f) = mw G b th (va_up rg r f) wk fi fa := by
  rw [Nat.add_comm 5 r]
  show _ :: _ :: _ :: _ :: _ :: ((List.range 16).map (fun i => (b (5 + i), rwZ G (rg i)))).set r (b (r + 5), rwZ G f) = _
  have h := rg_set (n := 16) (r := r) (fun i => (b (5 + i), rwZ G (rg i))) (fun i => (b (5 + i), rwZ G (va_up rg r f i))) (fun i hi => by simp [va_up, hi])
  have h2 : va_up rg r f r = f := by simp [va_up]
  simp only [h2] at h
  rw [Nat.add_comm r 5, h]
  rfl
theorem mw_adr {th' : Int32} {rg' : Nat → Nat → Bool} {wk' : Nat → Bool} {fi' fa' : Nat → Int32} : (mw G b th' rg' wk' fi' fa').map Prod.fst = (mw G b th rg wk fi fa).map Prod.fst := rfl
theorem mw_o {r : Nat} (hr : r < 16) : (fun i => if i < 16 then some (b (5 + i)) else none) r = some (b (5 + r)) := if_pos hr
theorem upd_b {f : Nat → Bool} {j : Nat} {v : Bool} : upd (fun x => bI (f x)) j (bI v) = fun x => bI (va_up f j v x) := by
  funext x
  unfold upd va_up
  by_cases h : x = j <;> simp [h]
end MW
/-- a row that is written from the front -/
def mix {α : Type} (i : Nat) (g f : Nat → α) : Nat → α := fun j => if j < i then g j else f j
theorem mix_0 {α : Type} (g f : Nat → α) : mix 0 g f = f := by funext j; simp [mix]
theorem mix_up {α : Type} (i : Nat) (g f : Nat → α) : va_up (mix i g f) i (g i) = mix (i + 1) g f := by
  funext j
  unfold va_up mix
  by_cases h : j = i
  · subst h; simp
  · by_cases h2 : j < i
    · simp [h, h2, Nat.lt_succ_of_lt h2]
    · simp [h, h2, show ¬ j < i + 1 by omega]
theorem mix_updL (i : Nat) (g f : Nat → Int64) : vp_updL (mix i g f) i (g i) = mix (i + 1) g f := mix_up i g f
theorem mix_upd (i : Nat) (g f : Nat → Int32) : upd (mix i g f) i (g i) = mix (i + 1) g f := mix_up i g f
theorem va_up2 {α : Type} (f : Nat → α) (k : Nat) (x y : α) : va_up (va_up f k x) k y = va_up f k y := by
  funext j
  unfold va_up
  by_cases h : j = k <;> simp [h]
theorem va_up_s {α : Type} (f : Nat → α) (k : Nat) (x : α) : va_up f k x k = x := by simp [va_up]
theorem va_up_n {α : Type} (f : Nat → α) {k j : Nat} (x : α) (h : j ≠ k) : va_up f k x j = f j := by simp [va_up, h]
theorem va_up_id {α : Type} (f : Nat → α) (k : Nat) : va_up f k (f k) = f := by
  funext j
  unfold va_up
  by_cases h : j = k
  · rw [if_pos h, h]
  · rw [if_neg h]
/-- a loop that counts up to n -/
theorem up_to (n : Nat) {P : Nat → Prop} (hn : P n) (hs : ∀ i, i < n → P (i + 1) → P i) : P 0 := by
  have h : ∀ d, d ≤ n → P (n - d) := by
    intro d
    induction d with
    | zero => intro _; exact hn
    | succ d ih =>
      intro hd
      refine hs (n - (d + 1)) (by omega) ?_
      rw [show n - (d + 1) + 1 = n - d by omega]
      exact ih (by omega)
  have h0 := h n (Nat.le_refl _)
  rwa [Nat.sub_self] at h0
