-- the law's cases: a call of the class beside the reference's
abbrev lW (G : gG) (a : Nat → Nat) (o : Nat) (b : Nat → Nat) (hd : Nat → Nat → Int64) (wk sp : Nat → Int64) (ct : Int32) (ky nm : Nat → Int32) (of : Nat → Int64) (th : Int32) (rg : Nat → Nat → Bool) (mk : Nat → Bool) (fi fa : Nat → Int32) : va_W := (cw G a hd wk sp ct ky nm ++ oc G o of) ++ mw G b th rg mk fi fa
/-- from every tied world on -/
def Lq (p : Program) (l : Launch) (e : Env) (s : State) (m : MethodId) (args : Array Value) (below : List Frame) (meth : Method) (c : Code) (G : gG) (A : Nat → Prop) (cells slots : Nat) (Q : State → Prop) (a : Nat → Nat) (o : Nat) (b : Nat → Nat) (pc : Nat) (lv : List (Nat × Value)) : Prop :=
  ∀ (hd : Nat → Nat → Int64) (wk sp : Nat → Int64) (ct : Int32) (ky nm : Nat → Int32) (of : Nat → Int64) (th : Int32) (rg : Nat → Nat → Bool) (mk : Nat → Bool) (fi fa : Nat → Int32), tie hd rg → Wv p l e room_1 s m args below meth c G A 7 cells slots Q (lW G a o b hd wk sp ct ky nm of th rg mk fi fa) pc lv []
/-- the script -/
def Sc (A : Nat → Prop) (B L : Nat) (xs : Nat → Int32) (s : State) : Prop := va_X B L xs s s.heap ∧ B < s.heap.size ∧ ¬ A B ∧ L ≤ 2560
abbrev lvL (a b : Nat → Nat) (o B i : Nat) : List (Nat × Value) := [(4, .int (nI i)), (3, .ref o), (2, .ref (b 0)), (1, .ref (a 0)), (0, .ref B)]
theorem m_join {l : Launch} {G : gG} {b : Nat → Nat} {th : Int32} {rg : Nat → Nat → Bool} {wk : Nat → Bool} {fi fa : Nat → Int32} (t : Nat) (ht : t < 16) (k r1 r2 : Nat) (hk : k < 5) (h1 : r1 < 16) (h2 : r2 < 16) : Ct l y_M_join (.code y_M_join b_M_join 8 none :: TT) (rmF 2 61) G [.ref (b 0), .int (nI t), .int (nI k), .int (nI r1), .int (nI r2)] (mw G b th rg wk fi fa) none (mw G b (bI false) (va_up rg t (mix 1024 (mix 1024 (fun x => jB k (rg r1 x) (rg r2 x)) wk) (rg t))) (mix 1024 (fun x => jB k (rg r1 x) (rg r2 x)) wk) fi fa) := by
  rcases (show k = 0 ∨ k = 1 ∨ k = 2 ∨ k = 3 ∨ k = 4 by omega) with rfl | rfl | rfl | rfl | rfl
  · exact m_join0 t ht r1 r2 h1 h2
  · exact m_join1 t ht r1 r2 h1 h2
  · exact m_join2 t ht r1 r2 h1 h2
  · exact m_join3 t ht r1 r2 h1 h2
  · exact m_join4 t ht r1 r2 h1 h2
section LC
variable {p : Program} {l : Launch} {e : Env} {R : Room} {s : State} {m : MethodId} {args : Array Value} {below : List Frame} {meth : Method} {c : Code} {cells slots : Nat} {Q : State → Prop} {G : gG} {A : Nat → Prop} {nL : Nat} {cc : ByteArray} {own : String} {wd : Cond} {Ts : List Cond} {ws : va_W} {pc : Nat} {lv : List (Nat × Value)} {st : List Value} {a b : Nat → Nat} {o : Nat} {B L i : Nat} {xs : Nat → Int32}
  {hd : Nat → Nat → Int64} {wk sp : Nat → Int64} {ct : Int32} {ky nm : Nat → Int32} {of : Nat → Int64} {th : Int32} {rg : Nat → Nat → Bool} {mk : Nat → Bool} {fi fa : Nat → Int32}
theorem r_sld (h : Fx p m c s args meth own cc nL Ts G A) (hS : Sc A B L xs s) {n z : Int32} (j : Nat) (d : decode cc pc = .ok (.iaload, 1)) (hi : n = nI j) (hj : j < L) (e1 : xs j = z) (k : Wv p l e R s m args below meth c G A nL cells slots Q ws (pc + 1) lv (.int z :: st)) : Wv p l e R s m args below meth c G A nL cells slots Q ws pc lv (.int n :: .ref B :: st) := by
  subst hi
  subst e1
  intro H locs ls hP hD hS9 hl
  have hL := hS.2.2.2
  have e2 := nI_clamp (n := j) (by omega)
  refine va_sld h.1.1 h.1.2.1 hS.1 hS.2.1 hS.2.2.1 hS9 (by
    rintro (q | q)
    · exact nI_pos (by omega) q
    · rw [e2] at q
      omega) d ?_
  rw [e2]
  exact k H locs ls hP hD hS9 hl
theorem r_slen (h : Fx p m c s args meth own cc nL Ts G A) (hS : Sc A B L xs s) (d : decode cc pc = .ok (.arraylength, 1)) (k : Wv p l e R s m args below meth c G A nL cells slots Q ws (pc + 1) lv (.int (nI L) :: st)) : Wv p l e R s m args below meth c G A nL cells slots Q ws pc lv (.ref B :: st) :=
  fun H locs ls hP hD hS9 hl => va_slen h.1.1 h.1.2.1 hS.1 hS.2.1 hS.2.2.1 hS9 d (k H locs ls hP hD hS9 hl)
theorem lx_variable (h : Fx p m c s args meth "DiagramBenchLaw" code 7 (wd :: TT) G A) (hl : l.stackTraces = false) (hS : Sc A B L xs s) (hi : i + 5 ≤ L) (hc : cells + 1 ≤ room_1.cells) (hs : slots + 6 ≤ room_1.slots) (hT : tie hd rg) (K : Lq p l e s m args below meth c G A (cells + 1) (slots + 6) Q a o b 1114 (lvL a b o B i)) (hB : ¬ (okR 16 (xs (i + 1)) ∧ okR 10 (xs (i + 2)))) : Wv p l e room_1 s m args below meth c G A 7 cells slots Q (lW G a o b hd wk sp ct ky nm of th rg mk fi fa) 112 (lvL a b o B i) [] := by
  refine r_aload_n (pc := 112) h 3 d_L_law_112 rfl rfl ?_
  refine r_aload_n (pc := 113) h 4 d_L_law_113 rfl rfl ?_
  refine r_iload (pc := 114) h 0 d_L_law_114 rfl ?_
  refine r_iconst (pc := 116) h (v := nI 1) d_L_law_116 (by decide) ?_
  refine r_iadd (pc := 117) h (z := nI (i + 1)) d_L_law_117 (nI_add _ _) ?_
  refine r_sld (pc := 118) h hS (i + 1) (z := xs (i + 1)) d_L_law_118 rfl (by omega) rfl ?_
  refine r_aload_n (pc := 119) h 4 d_L_law_119 rfl rfl ?_
  refine r_iload (pc := 120) h 0 d_L_law_120 rfl ?_
  refine r_iconst (pc := 122) h (v := nI 2) d_L_law_122 (by decide) ?_
  refine r_iadd (pc := 123) h (z := nI (i + 2)) d_L_law_123 (nI_add _ _) ?_
  refine r_sld (pc := 124) h hS (i + 2) (z := xs (i + 2)) d_L_law_124 rfl (by omega) rfl ?_
  refine r_invSH (pc := 125) h (st := []) d_L_law_125 ((hx_variable hl (xs (i + 1)) (xs (i + 2)) hB).frame (mw G b th rg mk fi fa)) w_57 w_55 w_0 w_56 hd_L_variable ⟨(Nat.le_of_ble_eq_true rfl), (Nat.le_of_ble_eq_true rfl)⟩ rfl rfl rfl rfl (Nat.le_of_ble_eq_true rfl) ⟨hc, hs⟩ ?_
  rintro v9 ws9 ⟨ws8, ⟨rfl, rfl⟩, rfl⟩
  refine ⟨rfl, ?_⟩
  show Wv p l e room_1 s m args below meth c G A 7 (cells + 1) (slots + 6) Q (((cw G a hd wk sp ct ky nm) ++ oc G o of) ++ (mw G b th rg mk fi fa)) 128 [(4, .int (nI i)), (3, .ref o), (2, .ref (b 0)), (1, .ref (a 0)), (0, .ref B)] [.int (nI 1)]
  refine r_istore (pc := 128) h (lv' := [(5, .int (nI 1)), (4, .int (nI i)), (3, .ref o), (2, .ref (b 0)), (1, .ref (a 0)), (0, .ref B)]) d_L_law_128 (by decide) rfl ?_
  refine r_aload_n (pc := 130) h 3 d_L_law_130 rfl rfl ?_
  refine r_aload_n (pc := 131) h 5 d_L_law_131 rfl rfl ?_
  refine r_iload (pc := 132) h 1 d_L_law_132 rfl ?_
  refine r_iconst (pc := 134) h (v := nI 1) d_L_law_134 (by decide) ?_
  refine r_iadd (pc := 135) h (z := nI (i + 1)) d_L_law_135 (nI_add _ _) ?_
  refine r_sld (pc := 136) h hS (i + 1) (z := xs (i + 1)) d_L_law_136 rfl (by omega) rfl ?_
  refine r_aload_n (pc := 137) h 5 d_L_law_137 rfl rfl ?_
  refine r_iload (pc := 138) h 1 d_L_law_138 rfl ?_
  refine r_iconst (pc := 140) h (v := nI 2) d_L_law_140 (by decide) ?_
  refine r_iadd (pc := 141) h (z := nI (i + 2)) d_L_law_141 (nI_add _ _) ?_
  refine r_sld (pc := 142) h hS (i + 2) (z := xs (i + 2)) d_L_law_142 rfl (by omega) rfl ?_
  refine Wv.swp ?_
  refine r_invVv (pc := 143) h 0 (st := []) d_L_law_143 ((x_variable (xs (i + 1)) (xs (i + 2)) hB).frame ((cw G a hd wk sp ct ky nm) ++ oc G o of)) (r_cV h wc_M_variable w_374 w_3 w_375 w_376 hd_M_variable ⟨(Nat.le_of_ble_eq_true rfl), (Nat.le_of_ble_eq_true rfl)⟩ rfl rfl) (ap_l mw_0) rfl rfl rfl (Nat.le_of_ble_eq_true rfl) ⟨hc, hs⟩ rfl ?_
  refine r_aload_n (pc := 146) h 3 d_L_law_146 rfl rfl ?_
  refine r_invVa (pc := 147) h 0 (st := []) d_L_law_147 ((c_thrown).frame ((cw G a hd wk sp ct ky nm) ++ oc G o of)) (r_cV h wc_M_thrown w_370 w_3 w_371 w_372 hd_M_thrown ⟨(Nat.le_of_ble_eq_true rfl), (Nat.le_of_ble_eq_true rfl)⟩ rfl rfl) (ap_l mw_0) rfl rfl rfl (Nat.le_of_ble_eq_true rfl) ⟨hc, hs⟩ rfl ?_
  refine Wv.swp ?_
  refine r_iload (pc := 150) h 0 d_L_law_150 rfl ?_
  refine r_icmp_eq_t (pc := 152) h (tgt := 157) d_L_law_152 (by decide) (by decide) ?_
  refine r_goto (pc := 157) h (tgt := 1114) d_L_law_157 (by decide) ?_
  refine Wv.sub [1, 2, 3, 4, 5] rfl ?_
  exact K _ _ _ _ _ _ _ _ _ _ _ _ hT
theorem lx_only (h : Fx p m c s args meth "DiagramBenchLaw" code 7 (wd :: TT) G A) (hl : l.stackTraces = false) (hS : Sc A B L xs s) (hi : i + 5 ≤ L) (hc : cells + 1 ≤ room_1.cells) (hs : slots + 6 ≤ room_1.slots) (hT : tie hd rg) (K : Lq p l e s m args below meth c G A (cells + 1) (slots + 6) Q a o b 1114 (lvL a b o B i)) (hB : ¬ (okR 16 (xs (i + 1)) ∧ okR 1024 (xs (i + 2)))) : Wv p l e room_1 s m args below meth c G A 7 cells slots Q (lW G a o b hd wk sp ct ky nm of th rg mk fi fa) 160 (lvL a b o B i) [] := by
  refine r_aload_n (pc := 160) h 3 d_L_law_160 rfl rfl ?_
  refine r_aload_n (pc := 161) h 4 d_L_law_161 rfl rfl ?_
  refine r_iload (pc := 162) h 0 d_L_law_162 rfl ?_
  refine r_iconst (pc := 164) h (v := nI 1) d_L_law_164 (by decide) ?_
  refine r_iadd (pc := 165) h (z := nI (i + 1)) d_L_law_165 (nI_add _ _) ?_
  refine r_sld (pc := 166) h hS (i + 1) (z := xs (i + 1)) d_L_law_166 rfl (by omega) rfl ?_
  refine r_aload_n (pc := 167) h 4 d_L_law_167 rfl rfl ?_
  refine r_iload (pc := 168) h 0 d_L_law_168 rfl ?_
  refine r_iconst (pc := 170) h (v := nI 2) d_L_law_170 (by decide) ?_
  refine r_iadd (pc := 171) h (z := nI (i + 2)) d_L_law_171 (nI_add _ _) ?_
  refine r_sld (pc := 172) h hS (i + 2) (z := xs (i + 2)) d_L_law_172 rfl (by omega) rfl ?_
  refine r_invSH (pc := 173) h (st := []) d_L_law_173 ((hx_only hl (xs (i + 1)) (xs (i + 2)) hB).frame (mw G b th rg mk fi fa)) w_148 w_146 w_0 w_147 hd_L_only ⟨(Nat.le_of_ble_eq_true rfl), (Nat.le_of_ble_eq_true rfl)⟩ rfl rfl rfl rfl (Nat.le_of_ble_eq_true rfl) ⟨hc, hs⟩ ?_
  rintro v9 ws9 ⟨ws8, ⟨rfl, rfl⟩, rfl⟩
  refine ⟨rfl, ?_⟩
  show Wv p l e room_1 s m args below meth c G A 7 (cells + 1) (slots + 6) Q (((cw G a hd wk sp ct ky nm) ++ oc G o of) ++ (mw G b th rg mk fi fa)) 176 [(4, .int (nI i)), (3, .ref o), (2, .ref (b 0)), (1, .ref (a 0)), (0, .ref B)] [.int (nI 1)]
  refine r_istore (pc := 176) h (lv' := [(5, .int (nI 1)), (4, .int (nI i)), (3, .ref o), (2, .ref (b 0)), (1, .ref (a 0)), (0, .ref B)]) d_L_law_176 (by decide) rfl ?_
  refine r_aload_n (pc := 178) h 3 d_L_law_178 rfl rfl ?_
  refine r_aload_n (pc := 179) h 5 d_L_law_179 rfl rfl ?_
  refine r_iload (pc := 180) h 1 d_L_law_180 rfl ?_
  refine r_iconst (pc := 182) h (v := nI 1) d_L_law_182 (by decide) ?_
  refine r_iadd (pc := 183) h (z := nI (i + 1)) d_L_law_183 (nI_add _ _) ?_
  refine r_sld (pc := 184) h hS (i + 1) (z := xs (i + 1)) d_L_law_184 rfl (by omega) rfl ?_
  refine r_aload_n (pc := 185) h 5 d_L_law_185 rfl rfl ?_
  refine r_iload (pc := 186) h 1 d_L_law_186 rfl ?_
  refine r_iconst (pc := 188) h (v := nI 2) d_L_law_188 (by decide) ?_
  refine r_iadd (pc := 189) h (z := nI (i + 2)) d_L_law_189 (nI_add _ _) ?_
  refine r_sld (pc := 190) h hS (i + 2) (z := xs (i + 2)) d_L_law_190 rfl (by omega) rfl ?_
  refine Wv.swp ?_
  refine r_invVv (pc := 191) h 0 (st := []) d_L_law_191 ((x_only (xs (i + 1)) (xs (i + 2)) hB).frame ((cw G a hd wk sp ct ky nm) ++ oc G o of)) (r_cV h wc_M_only w_388 w_3 w_389 w_390 hd_M_only ⟨(Nat.le_of_ble_eq_true rfl), (Nat.le_of_ble_eq_true rfl)⟩ rfl rfl) (ap_l mw_0) rfl rfl rfl (Nat.le_of_ble_eq_true rfl) ⟨hc, hs⟩ rfl ?_
  refine r_aload_n (pc := 194) h 3 d_L_law_194 rfl rfl ?_
  refine r_invVa (pc := 195) h 0 (st := []) d_L_law_195 ((c_thrown).frame ((cw G a hd wk sp ct ky nm) ++ oc G o of)) (r_cV h wc_M_thrown w_370 w_3 w_371 w_372 hd_M_thrown ⟨(Nat.le_of_ble_eq_true rfl), (Nat.le_of_ble_eq_true rfl)⟩ rfl rfl) (ap_l mw_0) rfl rfl rfl (Nat.le_of_ble_eq_true rfl) ⟨hc, hs⟩ rfl ?_
  refine Wv.swp ?_
  refine r_iload (pc := 198) h 0 d_L_law_198 rfl ?_
  refine r_icmp_eq_t (pc := 200) h (tgt := 205) d_L_law_200 (by decide) (by decide) ?_
  refine r_goto (pc := 205) h (tgt := 1114) d_L_law_205 (by decide) ?_
  refine Wv.sub [1, 2, 3, 4, 5] rfl ?_
  exact K _ _ _ _ _ _ _ _ _ _ _ _ hT
theorem lx_join (h : Fx p m c s args meth "DiagramBenchLaw" code 7 (wd :: TT) G A) (hl : l.stackTraces = false) (hS : Sc A B L xs s) (hi : i + 5 ≤ L) (hc : cells + 1 ≤ room_1.cells) (hs : slots + 6 ≤ room_1.slots) (hT : tie hd rg) (K : Lq p l e s m args below meth c G A (cells + 1) (slots + 6) Q a o b 1114 (lvL a b o B i)) (hB : ¬ (okR 16 (xs (i + 1)) ∧ okR 5 (xs (i + 2)) ∧ okR 16 (xs (i + 3)) ∧ okR 16 (xs (i + 4)))) : Wv p l e room_1 s m args below meth c G A 7 cells slots Q (lW G a o b hd wk sp ct ky nm of th rg mk fi fa) 208 (lvL a b o B i) [] := by
  refine r_aload_n (pc := 208) h 3 d_L_law_208 rfl rfl ?_
  refine r_aload_n (pc := 209) h 4 d_L_law_209 rfl rfl ?_
  refine r_iload (pc := 210) h 0 d_L_law_210 rfl ?_
  refine r_iconst (pc := 212) h (v := nI 1) d_L_law_212 (by decide) ?_
  refine r_iadd (pc := 213) h (z := nI (i + 1)) d_L_law_213 (nI_add _ _) ?_
  refine r_sld (pc := 214) h hS (i + 1) (z := xs (i + 1)) d_L_law_214 rfl (by omega) rfl ?_
  refine r_aload_n (pc := 215) h 4 d_L_law_215 rfl rfl ?_
  refine r_iload (pc := 216) h 0 d_L_law_216 rfl ?_
  refine r_iconst (pc := 218) h (v := nI 2) d_L_law_218 (by decide) ?_
  refine r_iadd (pc := 219) h (z := nI (i + 2)) d_L_law_219 (nI_add _ _) ?_
  refine r_sld (pc := 220) h hS (i + 2) (z := xs (i + 2)) d_L_law_220 rfl (by omega) rfl ?_
  refine r_aload_n (pc := 221) h 4 d_L_law_221 rfl rfl ?_
  refine r_iload (pc := 222) h 0 d_L_law_222 rfl ?_
  refine r_iconst (pc := 224) h (v := nI 3) d_L_law_224 (by decide) ?_
  refine r_iadd (pc := 225) h (z := nI (i + 3)) d_L_law_225 (nI_add _ _) ?_
  refine r_sld (pc := 226) h hS (i + 3) (z := xs (i + 3)) d_L_law_226 rfl (by omega) rfl ?_
  refine r_aload_n (pc := 227) h 4 d_L_law_227 rfl rfl ?_
  refine r_iload (pc := 228) h 0 d_L_law_228 rfl ?_
  refine r_iconst (pc := 230) h (v := nI 4) d_L_law_230 (by decide) ?_
  refine r_iadd (pc := 231) h (z := nI (i + 4)) d_L_law_231 (nI_add _ _) ?_
  refine r_sld (pc := 232) h hS (i + 4) (z := xs (i + 4)) d_L_law_232 rfl (by omega) rfl ?_
  refine r_invSH (pc := 233) h (st := []) d_L_law_233 ((hx_join hl (xs (i + 1)) (xs (i + 2)) (xs (i + 3)) (xs (i + 4)) hB).frame (mw G b th rg mk fi fa)) w_162 w_160 w_0 w_161 hd_L_join ⟨(Nat.le_of_ble_eq_true rfl), (Nat.le_of_ble_eq_true rfl)⟩ rfl rfl rfl rfl (Nat.le_of_ble_eq_true rfl) ⟨hc, hs⟩ ?_
  rintro v9 ws9 ⟨ws8, ⟨rfl, rfl⟩, rfl⟩
  refine ⟨rfl, ?_⟩
  show Wv p l e room_1 s m args below meth c G A 7 (cells + 1) (slots + 6) Q (((cw G a hd wk sp ct ky nm) ++ oc G o of) ++ (mw G b th rg mk fi fa)) 236 [(4, .int (nI i)), (3, .ref o), (2, .ref (b 0)), (1, .ref (a 0)), (0, .ref B)] [.int (nI 1)]
  refine r_istore (pc := 236) h (lv' := [(5, .int (nI 1)), (4, .int (nI i)), (3, .ref o), (2, .ref (b 0)), (1, .ref (a 0)), (0, .ref B)]) d_L_law_236 (by decide) rfl ?_
  refine r_aload_n (pc := 238) h 3 d_L_law_238 rfl rfl ?_
  refine r_aload_n (pc := 239) h 5 d_L_law_239 rfl rfl ?_
  refine r_iload (pc := 240) h 1 d_L_law_240 rfl ?_
  refine r_iconst (pc := 242) h (v := nI 1) d_L_law_242 (by decide) ?_
  refine r_iadd (pc := 243) h (z := nI (i + 1)) d_L_law_243 (nI_add _ _) ?_
  refine r_sld (pc := 244) h hS (i + 1) (z := xs (i + 1)) d_L_law_244 rfl (by omega) rfl ?_
  refine r_aload_n (pc := 245) h 5 d_L_law_245 rfl rfl ?_
  refine r_iload (pc := 246) h 1 d_L_law_246 rfl ?_
  refine r_iconst (pc := 248) h (v := nI 2) d_L_law_248 (by decide) ?_
  refine r_iadd (pc := 249) h (z := nI (i + 2)) d_L_law_249 (nI_add _ _) ?_
  refine r_sld (pc := 250) h hS (i + 2) (z := xs (i + 2)) d_L_law_250 rfl (by omega) rfl ?_
  refine r_aload_n (pc := 251) h 5 d_L_law_251 rfl rfl ?_
  refine r_iload (pc := 252) h 1 d_L_law_252 rfl ?_
  refine r_iconst (pc := 254) h (v := nI 3) d_L_law_254 (by decide) ?_
  refine r_iadd (pc := 255) h (z := nI (i + 3)) d_L_law_255 (nI_add _ _) ?_
  refine r_sld (pc := 256) h hS (i + 3) (z := xs (i + 3)) d_L_law_256 rfl (by omega) rfl ?_
  refine r_aload_n (pc := 257) h 5 d_L_law_257 rfl rfl ?_
  refine r_iload (pc := 258) h 1 d_L_law_258 rfl ?_
  refine r_iconst (pc := 260) h (v := nI 4) d_L_law_260 (by decide) ?_
  refine r_iadd (pc := 261) h (z := nI (i + 4)) d_L_law_261 (nI_add _ _) ?_
  refine r_sld (pc := 262) h hS (i + 4) (z := xs (i + 4)) d_L_law_262 rfl (by omega) rfl ?_
  refine Wv.swp ?_
  refine r_invVv (pc := 263) h 0 (st := []) d_L_law_263 ((x_join (xs (i + 1)) (xs (i + 3)) (xs (i + 4)) (xs (i + 2)) hB).frame ((cw G a hd wk sp ct ky nm) ++ oc G o of)) (r_cV h wc_M_join w_395 w_3 w_396 w_397 hd_M_join ⟨(Nat.le_of_ble_eq_true rfl), (Nat.le_of_ble_eq_true rfl)⟩ rfl rfl) (ap_l mw_0) rfl rfl rfl (Nat.le_of_ble_eq_true rfl) ⟨hc, hs⟩ rfl ?_
  refine r_aload_n (pc := 266) h 3 d_L_law_266 rfl rfl ?_
  refine r_invVa (pc := 267) h 0 (st := []) d_L_law_267 ((c_thrown).frame ((cw G a hd wk sp ct ky nm) ++ oc G o of)) (r_cV h wc_M_thrown w_370 w_3 w_371 w_372 hd_M_thrown ⟨(Nat.le_of_ble_eq_true rfl), (Nat.le_of_ble_eq_true rfl)⟩ rfl rfl) (ap_l mw_0) rfl rfl rfl (Nat.le_of_ble_eq_true rfl) ⟨hc, hs⟩ rfl ?_
  refine Wv.swp ?_
  refine r_iload (pc := 270) h 0 d_L_law_270 rfl ?_
  refine r_icmp_eq_t (pc := 272) h (tgt := 277) d_L_law_272 (by decide) (by decide) ?_
  refine r_goto (pc := 277) h (tgt := 1114) d_L_law_277 (by decide) ?_
  refine Wv.sub [1, 2, 3, 4, 5] rfl ?_
  exact K _ _ _ _ _ _ _ _ _ _ _ _ hT
theorem lx_choose (h : Fx p m c s args meth "DiagramBenchLaw" code 7 (wd :: TT) G A) (hl : l.stackTraces = false) (hS : Sc A B L xs s) (hi : i + 5 ≤ L) (hc : cells + 1 ≤ room_1.cells) (hs : slots + 6 ≤ room_1.slots) (hT : tie hd rg) (K : Lq p l e s m args below meth c G A (cells + 1) (slots + 6) Q a o b 1114 (lvL a b o B i)) (hB : ¬ (okR 16 (xs (i + 1)) ∧ okR 16 (xs (i + 2)) ∧ okR 16 (xs (i + 3)) ∧ okR 16 (xs (i + 4)))) : Wv p l e room_1 s m args below meth c G A 7 cells slots Q (lW G a o b hd wk sp ct ky nm of th rg mk fi fa) 280 (lvL a b o B i) [] := by
  refine r_aload_n (pc := 280) h 3 d_L_law_280 rfl rfl ?_
  refine r_aload_n (pc := 281) h 4 d_L_law_281 rfl rfl ?_
  refine r_iload (pc := 282) h 0 d_L_law_282 rfl ?_
  refine r_iconst (pc := 284) h (v := nI 1) d_L_law_284 (by decide) ?_
  refine r_iadd (pc := 285) h (z := nI (i + 1)) d_L_law_285 (nI_add _ _) ?_
  refine r_sld (pc := 286) h hS (i + 1) (z := xs (i + 1)) d_L_law_286 rfl (by omega) rfl ?_
  refine r_aload_n (pc := 287) h 4 d_L_law_287 rfl rfl ?_
  refine r_iload (pc := 288) h 0 d_L_law_288 rfl ?_
  refine r_iconst (pc := 290) h (v := nI 2) d_L_law_290 (by decide) ?_
  refine r_iadd (pc := 291) h (z := nI (i + 2)) d_L_law_291 (nI_add _ _) ?_
  refine r_sld (pc := 292) h hS (i + 2) (z := xs (i + 2)) d_L_law_292 rfl (by omega) rfl ?_
  refine r_aload_n (pc := 293) h 4 d_L_law_293 rfl rfl ?_
  refine r_iload (pc := 294) h 0 d_L_law_294 rfl ?_
  refine r_iconst (pc := 296) h (v := nI 3) d_L_law_296 (by decide) ?_
  refine r_iadd (pc := 297) h (z := nI (i + 3)) d_L_law_297 (nI_add _ _) ?_
  refine r_sld (pc := 298) h hS (i + 3) (z := xs (i + 3)) d_L_law_298 rfl (by omega) rfl ?_
  refine r_aload_n (pc := 299) h 4 d_L_law_299 rfl rfl ?_
  refine r_iload (pc := 300) h 0 d_L_law_300 rfl ?_
  refine r_iconst (pc := 302) h (v := nI 4) d_L_law_302 (by decide) ?_
  refine r_iadd (pc := 303) h (z := nI (i + 4)) d_L_law_303 (nI_add _ _) ?_
  refine r_sld (pc := 304) h hS (i + 4) (z := xs (i + 4)) d_L_law_304 rfl (by omega) rfl ?_
  refine r_invSH (pc := 305) h (st := []) d_L_law_305 ((hx_choose hl (xs (i + 1)) (xs (i + 2)) (xs (i + 3)) (xs (i + 4)) hB).frame (mw G b th rg mk fi fa)) w_176 w_174 w_0 w_175 hd_L_choose ⟨(Nat.le_of_ble_eq_true rfl), (Nat.le_of_ble_eq_true rfl)⟩ rfl rfl rfl rfl (Nat.le_of_ble_eq_true rfl) ⟨hc, hs⟩ ?_
  rintro v9 ws9 ⟨ws8, ⟨rfl, rfl⟩, rfl⟩
  refine ⟨rfl, ?_⟩
  show Wv p l e room_1 s m args below meth c G A 7 (cells + 1) (slots + 6) Q (((cw G a hd wk sp ct ky nm) ++ oc G o of) ++ (mw G b th rg mk fi fa)) 308 [(4, .int (nI i)), (3, .ref o), (2, .ref (b 0)), (1, .ref (a 0)), (0, .ref B)] [.int (nI 1)]
  refine r_istore (pc := 308) h (lv' := [(5, .int (nI 1)), (4, .int (nI i)), (3, .ref o), (2, .ref (b 0)), (1, .ref (a 0)), (0, .ref B)]) d_L_law_308 (by decide) rfl ?_
  refine r_aload_n (pc := 310) h 3 d_L_law_310 rfl rfl ?_
  refine r_aload_n (pc := 311) h 5 d_L_law_311 rfl rfl ?_
  refine r_iload (pc := 312) h 1 d_L_law_312 rfl ?_
  refine r_iconst (pc := 314) h (v := nI 1) d_L_law_314 (by decide) ?_
  refine r_iadd (pc := 315) h (z := nI (i + 1)) d_L_law_315 (nI_add _ _) ?_
  refine r_sld (pc := 316) h hS (i + 1) (z := xs (i + 1)) d_L_law_316 rfl (by omega) rfl ?_
  refine r_aload_n (pc := 317) h 5 d_L_law_317 rfl rfl ?_
  refine r_iload (pc := 318) h 1 d_L_law_318 rfl ?_
  refine r_iconst (pc := 320) h (v := nI 2) d_L_law_320 (by decide) ?_
  refine r_iadd (pc := 321) h (z := nI (i + 2)) d_L_law_321 (nI_add _ _) ?_
  refine r_sld (pc := 322) h hS (i + 2) (z := xs (i + 2)) d_L_law_322 rfl (by omega) rfl ?_
  refine r_aload_n (pc := 323) h 5 d_L_law_323 rfl rfl ?_
  refine r_iload (pc := 324) h 1 d_L_law_324 rfl ?_
  refine r_iconst (pc := 326) h (v := nI 3) d_L_law_326 (by decide) ?_
  refine r_iadd (pc := 327) h (z := nI (i + 3)) d_L_law_327 (nI_add _ _) ?_
  refine r_sld (pc := 328) h hS (i + 3) (z := xs (i + 3)) d_L_law_328 rfl (by omega) rfl ?_
  refine r_aload_n (pc := 329) h 5 d_L_law_329 rfl rfl ?_
  refine r_iload (pc := 330) h 1 d_L_law_330 rfl ?_
  refine r_iconst (pc := 332) h (v := nI 4) d_L_law_332 (by decide) ?_
  refine r_iadd (pc := 333) h (z := nI (i + 4)) d_L_law_333 (nI_add _ _) ?_
  refine r_sld (pc := 334) h hS (i + 4) (z := xs (i + 4)) d_L_law_334 rfl (by omega) rfl ?_
  refine Wv.swp ?_
  refine r_invVv (pc := 335) h 0 (st := []) d_L_law_335 ((x_choose (xs (i + 1)) (xs (i + 2)) (xs (i + 3)) (xs (i + 4)) hB).frame ((cw G a hd wk sp ct ky nm) ++ oc G o of)) (r_cV h wc_M_choose w_404 w_3 w_405 w_406 hd_M_choose ⟨(Nat.le_of_ble_eq_true rfl), (Nat.le_of_ble_eq_true rfl)⟩ rfl rfl) (ap_l mw_0) rfl rfl rfl (Nat.le_of_ble_eq_true rfl) ⟨hc, hs⟩ rfl ?_
  refine r_aload_n (pc := 338) h 3 d_L_law_338 rfl rfl ?_
  refine r_invVa (pc := 339) h 0 (st := []) d_L_law_339 ((c_thrown).frame ((cw G a hd wk sp ct ky nm) ++ oc G o of)) (r_cV h wc_M_thrown w_370 w_3 w_371 w_372 hd_M_thrown ⟨(Nat.le_of_ble_eq_true rfl), (Nat.le_of_ble_eq_true rfl)⟩ rfl rfl) (ap_l mw_0) rfl rfl rfl (Nat.le_of_ble_eq_true rfl) ⟨hc, hs⟩ rfl ?_
  refine Wv.swp ?_
  refine r_iload (pc := 342) h 0 d_L_law_342 rfl ?_
  refine r_icmp_eq_t (pc := 344) h (tgt := 349) d_L_law_344 (by decide) (by decide) ?_
  refine r_goto (pc := 349) h (tgt := 1114) d_L_law_349 (by decide) ?_
  refine Wv.sub [1, 2, 3, 4, 5] rfl ?_
  exact K _ _ _ _ _ _ _ _ _ _ _ _ hT
theorem lx_cut_false (h : Fx p m c s args meth "DiagramBenchLaw" code 7 (wd :: TT) G A) (hl : l.stackTraces = false) (hS : Sc A B L xs s) (hi : i + 5 ≤ L) (hc : cells + 1 ≤ room_1.cells) (hs : slots + 6 ≤ room_1.slots) (hT : tie hd rg) (K : Lq p l e s m args below meth c G A (cells + 1) (slots + 6) Q a o b 1114 (lvL a b o B i)) (hB : ¬ (okR 16 (xs (i + 1)) ∧ okR 16 (xs (i + 2)) ∧ okR 10 (xs (i + 3)))) (hz : xs (i + 4) = 0) : Wv p l e room_1 s m args below meth c G A 7 cells slots Q (lW G a o b hd wk sp ct ky nm of th rg mk fi fa) 352 (lvL a b o B i) [] := by
  refine r_aload_n (pc := 352) h 3 d_L_law_352 rfl rfl ?_
  refine r_aload_n (pc := 353) h 4 d_L_law_353 rfl rfl ?_
  refine r_iload (pc := 354) h 0 d_L_law_354 rfl ?_
  refine r_iconst (pc := 356) h (v := nI 1) d_L_law_356 (by decide) ?_
  refine r_iadd (pc := 357) h (z := nI (i + 1)) d_L_law_357 (nI_add _ _) ?_
  refine r_sld (pc := 358) h hS (i + 1) (z := xs (i + 1)) d_L_law_358 rfl (by omega) rfl ?_
  refine r_aload_n (pc := 359) h 4 d_L_law_359 rfl rfl ?_
  refine r_iload (pc := 360) h 0 d_L_law_360 rfl ?_
  refine r_iconst (pc := 362) h (v := nI 2) d_L_law_362 (by decide) ?_
  refine r_iadd (pc := 363) h (z := nI (i + 2)) d_L_law_363 (nI_add _ _) ?_
  refine r_sld (pc := 364) h hS (i + 2) (z := xs (i + 2)) d_L_law_364 rfl (by omega) rfl ?_
  refine r_aload_n (pc := 365) h 4 d_L_law_365 rfl rfl ?_
  refine r_iload (pc := 366) h 0 d_L_law_366 rfl ?_
  refine r_iconst (pc := 368) h (v := nI 3) d_L_law_368 (by decide) ?_
  refine r_iadd (pc := 369) h (z := nI (i + 3)) d_L_law_369 (nI_add _ _) ?_
  refine r_sld (pc := 370) h hS (i + 3) (z := xs (i + 3)) d_L_law_370 rfl (by omega) rfl ?_
  refine r_aload_n (pc := 371) h 4 d_L_law_371 rfl rfl ?_
  refine r_iload (pc := 372) h 0 d_L_law_372 rfl ?_
  refine r_iconst (pc := 374) h (v := nI 4) d_L_law_374 (by decide) ?_
  refine r_iadd (pc := 375) h (z := nI (i + 4)) d_L_law_375 (nI_add _ _) ?_
  refine r_sld (pc := 376) h hS (i + 4) (z := xs (i + 4)) d_L_law_376 rfl (by omega) rfl ?_
  refine r_if_eq_t (pc := 377) h (tgt := 384) d_L_law_377 (by decide) hz ?_
  refine r_iconst (pc := 384) h (v := bI false) d_L_law_384 (by decide) ?_
  refine r_invSH (pc := 385) h (st := []) d_L_law_385 ((hx_cut hl (xs (i + 1)) (xs (i + 2)) (xs (i + 3)) (bI false) hB).frame (mw G b th rg mk fi fa)) w_186 w_184 w_0 w_185 hd_L_cut ⟨(Nat.le_of_ble_eq_true rfl), (Nat.le_of_ble_eq_true rfl)⟩ rfl rfl rfl rfl (Nat.le_of_ble_eq_true rfl) ⟨hc, hs⟩ ?_
  rintro v9 ws9 ⟨ws8, ⟨rfl, rfl⟩, rfl⟩
  refine ⟨rfl, ?_⟩
  show Wv p l e room_1 s m args below meth c G A 7 (cells + 1) (slots + 6) Q (((cw G a hd wk sp ct ky nm) ++ oc G o of) ++ (mw G b th rg mk fi fa)) 388 [(4, .int (nI i)), (3, .ref o), (2, .ref (b 0)), (1, .ref (a 0)), (0, .ref B)] [.int (nI 1)]
  refine r_istore (pc := 388) h (lv' := [(5, .int (nI 1)), (4, .int (nI i)), (3, .ref o), (2, .ref (b 0)), (1, .ref (a 0)), (0, .ref B)]) d_L_law_388 (by decide) rfl ?_
  refine r_aload_n (pc := 390) h 3 d_L_law_390 rfl rfl ?_
  refine r_aload_n (pc := 391) h 5 d_L_law_391 rfl rfl ?_
  refine r_iload (pc := 392) h 1 d_L_law_392 rfl ?_
  refine r_iconst (pc := 394) h (v := nI 1) d_L_law_394 (by decide) ?_
  refine r_iadd (pc := 395) h (z := nI (i + 1)) d_L_law_395 (nI_add _ _) ?_
  refine r_sld (pc := 396) h hS (i + 1) (z := xs (i + 1)) d_L_law_396 rfl (by omega) rfl ?_
  refine r_aload_n (pc := 397) h 5 d_L_law_397 rfl rfl ?_
  refine r_iload (pc := 398) h 1 d_L_law_398 rfl ?_
  refine r_iconst (pc := 400) h (v := nI 2) d_L_law_400 (by decide) ?_
  refine r_iadd (pc := 401) h (z := nI (i + 2)) d_L_law_401 (nI_add _ _) ?_
  refine r_sld (pc := 402) h hS (i + 2) (z := xs (i + 2)) d_L_law_402 rfl (by omega) rfl ?_
  refine r_aload_n (pc := 403) h 5 d_L_law_403 rfl rfl ?_
  refine r_iload (pc := 404) h 1 d_L_law_404 rfl ?_
  refine r_iconst (pc := 406) h (v := nI 3) d_L_law_406 (by decide) ?_
  refine r_iadd (pc := 407) h (z := nI (i + 3)) d_L_law_407 (nI_add _ _) ?_
  refine r_sld (pc := 408) h hS (i + 3) (z := xs (i + 3)) d_L_law_408 rfl (by omega) rfl ?_
  refine r_aload_n (pc := 409) h 5 d_L_law_409 rfl rfl ?_
  refine r_iload (pc := 410) h 1 d_L_law_410 rfl ?_
  refine r_iconst (pc := 412) h (v := nI 4) d_L_law_412 (by decide) ?_
  refine r_iadd (pc := 413) h (z := nI (i + 4)) d_L_law_413 (nI_add _ _) ?_
  refine r_sld (pc := 414) h hS (i + 4) (z := xs (i + 4)) d_L_law_414 rfl (by omega) rfl ?_
  refine r_if_eq_t (pc := 415) h (tgt := 422) d_L_law_415 (by decide) hz ?_
  refine r_iconst (pc := 422) h (v := bI false) d_L_law_422 (by decide) ?_
  refine Wv.swp ?_
  refine r_invVv (pc := 423) h 0 (st := []) d_L_law_423 ((x_cut (xs (i + 1)) (xs (i + 2)) (xs (i + 3)) (bI false) hB).frame ((cw G a hd wk sp ct ky nm) ++ oc G o of)) (r_cV h wc_M_cut w_408 w_3 w_409 w_410 hd_M_cut ⟨(Nat.le_of_ble_eq_true rfl), (Nat.le_of_ble_eq_true rfl)⟩ rfl rfl) (ap_l mw_0) rfl rfl rfl (Nat.le_of_ble_eq_true rfl) ⟨hc, hs⟩ rfl ?_
  refine r_aload_n (pc := 426) h 3 d_L_law_426 rfl rfl ?_
  refine r_invVa (pc := 427) h 0 (st := []) d_L_law_427 ((c_thrown).frame ((cw G a hd wk sp ct ky nm) ++ oc G o of)) (r_cV h wc_M_thrown w_370 w_3 w_371 w_372 hd_M_thrown ⟨(Nat.le_of_ble_eq_true rfl), (Nat.le_of_ble_eq_true rfl)⟩ rfl rfl) (ap_l mw_0) rfl rfl rfl (Nat.le_of_ble_eq_true rfl) ⟨hc, hs⟩ rfl ?_
  refine Wv.swp ?_
  refine r_iload (pc := 430) h 0 d_L_law_430 rfl ?_
  refine r_icmp_eq_t (pc := 432) h (tgt := 437) d_L_law_432 (by decide) (by decide) ?_
  refine r_goto (pc := 437) h (tgt := 1114) d_L_law_437 (by decide) ?_
  refine Wv.sub [1, 2, 3, 4, 5] rfl ?_
  exact K _ _ _ _ _ _ _ _ _ _ _ _ hT
theorem lx_cut_true (h : Fx p m c s args meth "DiagramBenchLaw" code 7 (wd :: TT) G A) (hl : l.stackTraces = false) (hS : Sc A B L xs s) (hi : i + 5 ≤ L) (hc : cells + 1 ≤ room_1.cells) (hs : slots + 6 ≤ room_1.slots) (hT : tie hd rg) (K : Lq p l e s m args below meth c G A (cells + 1) (slots + 6) Q a o b 1114 (lvL a b o B i)) (hB : ¬ (okR 16 (xs (i + 1)) ∧ okR 16 (xs (i + 2)) ∧ okR 10 (xs (i + 3)))) (hz : xs (i + 4) ≠ 0) : Wv p l e room_1 s m args below meth c G A 7 cells slots Q (lW G a o b hd wk sp ct ky nm of th rg mk fi fa) 352 (lvL a b o B i) [] := by
  refine r_aload_n (pc := 352) h 3 d_L_law_352 rfl rfl ?_
  refine r_aload_n (pc := 353) h 4 d_L_law_353 rfl rfl ?_
  refine r_iload (pc := 354) h 0 d_L_law_354 rfl ?_
  refine r_iconst (pc := 356) h (v := nI 1) d_L_law_356 (by decide) ?_
  refine r_iadd (pc := 357) h (z := nI (i + 1)) d_L_law_357 (nI_add _ _) ?_
  refine r_sld (pc := 358) h hS (i + 1) (z := xs (i + 1)) d_L_law_358 rfl (by omega) rfl ?_
  refine r_aload_n (pc := 359) h 4 d_L_law_359 rfl rfl ?_
  refine r_iload (pc := 360) h 0 d_L_law_360 rfl ?_
  refine r_iconst (pc := 362) h (v := nI 2) d_L_law_362 (by decide) ?_
  refine r_iadd (pc := 363) h (z := nI (i + 2)) d_L_law_363 (nI_add _ _) ?_
  refine r_sld (pc := 364) h hS (i + 2) (z := xs (i + 2)) d_L_law_364 rfl (by omega) rfl ?_
  refine r_aload_n (pc := 365) h 4 d_L_law_365 rfl rfl ?_
  refine r_iload (pc := 366) h 0 d_L_law_366 rfl ?_
  refine r_iconst (pc := 368) h (v := nI 3) d_L_law_368 (by decide) ?_
  refine r_iadd (pc := 369) h (z := nI (i + 3)) d_L_law_369 (nI_add _ _) ?_
  refine r_sld (pc := 370) h hS (i + 3) (z := xs (i + 3)) d_L_law_370 rfl (by omega) rfl ?_
  refine r_aload_n (pc := 371) h 4 d_L_law_371 rfl rfl ?_
  refine r_iload (pc := 372) h 0 d_L_law_372 rfl ?_
  refine r_iconst (pc := 374) h (v := nI 4) d_L_law_374 (by decide) ?_
  refine r_iadd (pc := 375) h (z := nI (i + 4)) d_L_law_375 (nI_add _ _) ?_
  refine r_sld (pc := 376) h hS (i + 4) (z := xs (i + 4)) d_L_law_376 rfl (by omega) rfl ?_
  refine r_if_eq_f (pc := 377) h (tgt := 384) d_L_law_377 (by decide) hz ?_
  refine r_iconst (pc := 380) h (v := bI true) d_L_law_380 (by decide) ?_
  refine r_goto (pc := 381) h (tgt := 385) d_L_law_381 (by decide) ?_
  refine r_invSH (pc := 385) h (st := []) d_L_law_385 ((hx_cut hl (xs (i + 1)) (xs (i + 2)) (xs (i + 3)) (bI true) hB).frame (mw G b th rg mk fi fa)) w_186 w_184 w_0 w_185 hd_L_cut ⟨(Nat.le_of_ble_eq_true rfl), (Nat.le_of_ble_eq_true rfl)⟩ rfl rfl rfl rfl (Nat.le_of_ble_eq_true rfl) ⟨hc, hs⟩ ?_
  rintro v9 ws9 ⟨ws8, ⟨rfl, rfl⟩, rfl⟩
  refine ⟨rfl, ?_⟩
  show Wv p l e room_1 s m args below meth c G A 7 (cells + 1) (slots + 6) Q (((cw G a hd wk sp ct ky nm) ++ oc G o of) ++ (mw G b th rg mk fi fa)) 388 [(4, .int (nI i)), (3, .ref o), (2, .ref (b 0)), (1, .ref (a 0)), (0, .ref B)] [.int (nI 1)]
  refine r_istore (pc := 388) h (lv' := [(5, .int (nI 1)), (4, .int (nI i)), (3, .ref o), (2, .ref (b 0)), (1, .ref (a 0)), (0, .ref B)]) d_L_law_388 (by decide) rfl ?_
  refine r_aload_n (pc := 390) h 3 d_L_law_390 rfl rfl ?_
  refine r_aload_n (pc := 391) h 5 d_L_law_391 rfl rfl ?_
  refine r_iload (pc := 392) h 1 d_L_law_392 rfl ?_
  refine r_iconst (pc := 394) h (v := nI 1) d_L_law_394 (by decide) ?_
  refine r_iadd (pc := 395) h (z := nI (i + 1)) d_L_law_395 (nI_add _ _) ?_
  refine r_sld (pc := 396) h hS (i + 1) (z := xs (i + 1)) d_L_law_396 rfl (by omega) rfl ?_
  refine r_aload_n (pc := 397) h 5 d_L_law_397 rfl rfl ?_
  refine r_iload (pc := 398) h 1 d_L_law_398 rfl ?_
  refine r_iconst (pc := 400) h (v := nI 2) d_L_law_400 (by decide) ?_
  refine r_iadd (pc := 401) h (z := nI (i + 2)) d_L_law_401 (nI_add _ _) ?_
  refine r_sld (pc := 402) h hS (i + 2) (z := xs (i + 2)) d_L_law_402 rfl (by omega) rfl ?_
  refine r_aload_n (pc := 403) h 5 d_L_law_403 rfl rfl ?_
  refine r_iload (pc := 404) h 1 d_L_law_404 rfl ?_
  refine r_iconst (pc := 406) h (v := nI 3) d_L_law_406 (by decide) ?_
  refine r_iadd (pc := 407) h (z := nI (i + 3)) d_L_law_407 (nI_add _ _) ?_
  refine r_sld (pc := 408) h hS (i + 3) (z := xs (i + 3)) d_L_law_408 rfl (by omega) rfl ?_
  refine r_aload_n (pc := 409) h 5 d_L_law_409 rfl rfl ?_
  refine r_iload (pc := 410) h 1 d_L_law_410 rfl ?_
  refine r_iconst (pc := 412) h (v := nI 4) d_L_law_412 (by decide) ?_
  refine r_iadd (pc := 413) h (z := nI (i + 4)) d_L_law_413 (nI_add _ _) ?_
  refine r_sld (pc := 414) h hS (i + 4) (z := xs (i + 4)) d_L_law_414 rfl (by omega) rfl ?_
  refine r_if_eq_f (pc := 415) h (tgt := 422) d_L_law_415 (by decide) hz ?_
  refine r_iconst (pc := 418) h (v := bI true) d_L_law_418 (by decide) ?_
  refine r_goto (pc := 419) h (tgt := 423) d_L_law_419 (by decide) ?_
  refine Wv.swp ?_
  refine r_invVv (pc := 423) h 0 (st := []) d_L_law_423 ((x_cut (xs (i + 1)) (xs (i + 2)) (xs (i + 3)) (bI true) hB).frame ((cw G a hd wk sp ct ky nm) ++ oc G o of)) (r_cV h wc_M_cut w_408 w_3 w_409 w_410 hd_M_cut ⟨(Nat.le_of_ble_eq_true rfl), (Nat.le_of_ble_eq_true rfl)⟩ rfl rfl) (ap_l mw_0) rfl rfl rfl (Nat.le_of_ble_eq_true rfl) ⟨hc, hs⟩ rfl ?_
  refine r_aload_n (pc := 426) h 3 d_L_law_426 rfl rfl ?_
  refine r_invVa (pc := 427) h 0 (st := []) d_L_law_427 ((c_thrown).frame ((cw G a hd wk sp ct ky nm) ++ oc G o of)) (r_cV h wc_M_thrown w_370 w_3 w_371 w_372 hd_M_thrown ⟨(Nat.le_of_ble_eq_true rfl), (Nat.le_of_ble_eq_true rfl)⟩ rfl rfl) (ap_l mw_0) rfl rfl rfl (Nat.le_of_ble_eq_true rfl) ⟨hc, hs⟩ rfl ?_
  refine Wv.swp ?_
  refine r_iload (pc := 430) h 0 d_L_law_430 rfl ?_
  refine r_icmp_eq_t (pc := 432) h (tgt := 437) d_L_law_432 (by decide) (by decide) ?_
  refine r_goto (pc := 437) h (tgt := 1114) d_L_law_437 (by decide) ?_
  refine Wv.sub [1, 2, 3, 4, 5] rfl ?_
  exact K _ _ _ _ _ _ _ _ _ _ _ _ hT
theorem lx_put (h : Fx p m c s args meth "DiagramBenchLaw" code 7 (wd :: TT) G A) (hl : l.stackTraces = false) (hS : Sc A B L xs s) (hi : i + 5 ≤ L) (hc : cells + 1 ≤ room_1.cells) (hs : slots + 6 ≤ room_1.slots) (hT : tie hd rg) (K : Lq p l e s m args below meth c G A (cells + 1) (slots + 6) Q a o b 1114 (lvL a b o B i)) (hB : ¬ (okR 16 (xs (i + 1)) ∧ okR 16 (xs (i + 2)) ∧ okR 10 (xs (i + 3)) ∧ okR 16 (xs (i + 4)))) : Wv p l e room_1 s m args below meth c G A 7 cells slots Q (lW G a o b hd wk sp ct ky nm of th rg mk fi fa) 440 (lvL a b o B i) [] := by
  refine r_aload_n (pc := 440) h 3 d_L_law_440 rfl rfl ?_
  refine r_aload_n (pc := 441) h 4 d_L_law_441 rfl rfl ?_
  refine r_iload (pc := 442) h 0 d_L_law_442 rfl ?_
  refine r_iconst (pc := 444) h (v := nI 1) d_L_law_444 (by decide) ?_
  refine r_iadd (pc := 445) h (z := nI (i + 1)) d_L_law_445 (nI_add _ _) ?_
  refine r_sld (pc := 446) h hS (i + 1) (z := xs (i + 1)) d_L_law_446 rfl (by omega) rfl ?_
  refine r_aload_n (pc := 447) h 4 d_L_law_447 rfl rfl ?_
  refine r_iload (pc := 448) h 0 d_L_law_448 rfl ?_
  refine r_iconst (pc := 450) h (v := nI 2) d_L_law_450 (by decide) ?_
  refine r_iadd (pc := 451) h (z := nI (i + 2)) d_L_law_451 (nI_add _ _) ?_
  refine r_sld (pc := 452) h hS (i + 2) (z := xs (i + 2)) d_L_law_452 rfl (by omega) rfl ?_
  refine r_aload_n (pc := 453) h 4 d_L_law_453 rfl rfl ?_
  refine r_iload (pc := 454) h 0 d_L_law_454 rfl ?_
  refine r_iconst (pc := 456) h (v := nI 3) d_L_law_456 (by decide) ?_
  refine r_iadd (pc := 457) h (z := nI (i + 3)) d_L_law_457 (nI_add _ _) ?_
  refine r_sld (pc := 458) h hS (i + 3) (z := xs (i + 3)) d_L_law_458 rfl (by omega) rfl ?_
  refine r_aload_n (pc := 459) h 4 d_L_law_459 rfl rfl ?_
  refine r_iload (pc := 460) h 0 d_L_law_460 rfl ?_
  refine r_iconst (pc := 462) h (v := nI 4) d_L_law_462 (by decide) ?_
  refine r_iadd (pc := 463) h (z := nI (i + 4)) d_L_law_463 (nI_add _ _) ?_
  refine r_sld (pc := 464) h hS (i + 4) (z := xs (i + 4)) d_L_law_464 rfl (by omega) rfl ?_
  refine r_invSH (pc := 465) h (st := []) d_L_law_465 ((hx_put hl (xs (i + 1)) (xs (i + 2)) (xs (i + 3)) (xs (i + 4)) hB).frame (mw G b th rg mk fi fa)) w_206 w_204 w_0 w_205 hd_L_put ⟨(Nat.le_of_ble_eq_true rfl), (Nat.le_of_ble_eq_true rfl)⟩ rfl rfl rfl rfl (Nat.le_of_ble_eq_true rfl) ⟨hc, hs⟩ ?_
  rintro v9 ws9 ⟨ws8, ⟨rfl, rfl⟩, rfl⟩
  refine ⟨rfl, ?_⟩
  show Wv p l e room_1 s m args below meth c G A 7 (cells + 1) (slots + 6) Q (((cw G a hd wk sp ct ky nm) ++ oc G o of) ++ (mw G b th rg mk fi fa)) 468 [(4, .int (nI i)), (3, .ref o), (2, .ref (b 0)), (1, .ref (a 0)), (0, .ref B)] [.int (nI 1)]
  refine r_istore (pc := 468) h (lv' := [(5, .int (nI 1)), (4, .int (nI i)), (3, .ref o), (2, .ref (b 0)), (1, .ref (a 0)), (0, .ref B)]) d_L_law_468 (by decide) rfl ?_
  refine r_aload_n (pc := 470) h 3 d_L_law_470 rfl rfl ?_
  refine r_aload_n (pc := 471) h 5 d_L_law_471 rfl rfl ?_
  refine r_iload (pc := 472) h 1 d_L_law_472 rfl ?_
  refine r_iconst (pc := 474) h (v := nI 1) d_L_law_474 (by decide) ?_
  refine r_iadd (pc := 475) h (z := nI (i + 1)) d_L_law_475 (nI_add _ _) ?_
  refine r_sld (pc := 476) h hS (i + 1) (z := xs (i + 1)) d_L_law_476 rfl (by omega) rfl ?_
  refine r_aload_n (pc := 477) h 5 d_L_law_477 rfl rfl ?_
  refine r_iload (pc := 478) h 1 d_L_law_478 rfl ?_
  refine r_iconst (pc := 480) h (v := nI 2) d_L_law_480 (by decide) ?_
  refine r_iadd (pc := 481) h (z := nI (i + 2)) d_L_law_481 (nI_add _ _) ?_
  refine r_sld (pc := 482) h hS (i + 2) (z := xs (i + 2)) d_L_law_482 rfl (by omega) rfl ?_
  refine r_aload_n (pc := 483) h 5 d_L_law_483 rfl rfl ?_
  refine r_iload (pc := 484) h 1 d_L_law_484 rfl ?_
  refine r_iconst (pc := 486) h (v := nI 3) d_L_law_486 (by decide) ?_
  refine r_iadd (pc := 487) h (z := nI (i + 3)) d_L_law_487 (nI_add _ _) ?_
  refine r_sld (pc := 488) h hS (i + 3) (z := xs (i + 3)) d_L_law_488 rfl (by omega) rfl ?_
  refine r_aload_n (pc := 489) h 5 d_L_law_489 rfl rfl ?_
  refine r_iload (pc := 490) h 1 d_L_law_490 rfl ?_
  refine r_iconst (pc := 492) h (v := nI 4) d_L_law_492 (by decide) ?_
  refine r_iadd (pc := 493) h (z := nI (i + 4)) d_L_law_493 (nI_add _ _) ?_
  refine r_sld (pc := 494) h hS (i + 4) (z := xs (i + 4)) d_L_law_494 rfl (by omega) rfl ?_
  refine Wv.swp ?_
  refine r_invVv (pc := 495) h 0 (st := []) d_L_law_495 ((x_put (xs (i + 1)) (xs (i + 2)) (xs (i + 3)) (xs (i + 4)) hB).frame ((cw G a hd wk sp ct ky nm) ++ oc G o of)) (r_cV h wc_M_put w_412 w_3 w_413 w_414 hd_M_put ⟨(Nat.le_of_ble_eq_true rfl), (Nat.le_of_ble_eq_true rfl)⟩ rfl rfl) (ap_l mw_0) rfl rfl rfl (Nat.le_of_ble_eq_true rfl) ⟨hc, hs⟩ rfl ?_
  refine r_aload_n (pc := 498) h 3 d_L_law_498 rfl rfl ?_
  refine r_invVa (pc := 499) h 0 (st := []) d_L_law_499 ((c_thrown).frame ((cw G a hd wk sp ct ky nm) ++ oc G o of)) (r_cV h wc_M_thrown w_370 w_3 w_371 w_372 hd_M_thrown ⟨(Nat.le_of_ble_eq_true rfl), (Nat.le_of_ble_eq_true rfl)⟩ rfl rfl) (ap_l mw_0) rfl rfl rfl (Nat.le_of_ble_eq_true rfl) ⟨hc, hs⟩ rfl ?_
  refine Wv.swp ?_
  refine r_iload (pc := 502) h 0 d_L_law_502 rfl ?_
  refine r_icmp_eq_t (pc := 504) h (tgt := 509) d_L_law_504 (by decide) (by decide) ?_
  refine r_goto (pc := 509) h (tgt := 1114) d_L_law_509 (by decide) ?_
  refine Wv.sub [1, 2, 3, 4, 5] rfl ?_
  exact K _ _ _ _ _ _ _ _ _ _ _ _ hT
theorem lx_bound_false (h : Fx p m c s args meth "DiagramBenchLaw" code 7 (wd :: TT) G A) (hl : l.stackTraces = false) (hS : Sc A B L xs s) (hi : i + 5 ≤ L) (hc : cells + 1 ≤ room_1.cells) (hs : slots + 6 ≤ room_1.slots) (hT : tie hd rg) (K : Lq p l e s m args below meth c G A (cells + 1) (slots + 6) Q a o b 1114 (lvL a b o B i)) (hB : ¬ (okR 16 (xs (i + 1)) ∧ okR 16 (xs (i + 2)) ∧ okR 1024 (xs (i + 3)))) (hz : xs (i + 4) = 0) : Wv p l e room_1 s m args below meth c G A 7 cells slots Q (lW G a o b hd wk sp ct ky nm of th rg mk fi fa) 512 (lvL a b o B i) [] := by
  refine r_aload_n (pc := 512) h 3 d_L_law_512 rfl rfl ?_
  refine r_aload_n (pc := 513) h 4 d_L_law_513 rfl rfl ?_
  refine r_iload (pc := 514) h 0 d_L_law_514 rfl ?_
  refine r_iconst (pc := 516) h (v := nI 1) d_L_law_516 (by decide) ?_
  refine r_iadd (pc := 517) h (z := nI (i + 1)) d_L_law_517 (nI_add _ _) ?_
  refine r_sld (pc := 518) h hS (i + 1) (z := xs (i + 1)) d_L_law_518 rfl (by omega) rfl ?_
  refine r_aload_n (pc := 519) h 4 d_L_law_519 rfl rfl ?_
  refine r_iload (pc := 520) h 0 d_L_law_520 rfl ?_
  refine r_iconst (pc := 522) h (v := nI 2) d_L_law_522 (by decide) ?_
  refine r_iadd (pc := 523) h (z := nI (i + 2)) d_L_law_523 (nI_add _ _) ?_
  refine r_sld (pc := 524) h hS (i + 2) (z := xs (i + 2)) d_L_law_524 rfl (by omega) rfl ?_
  refine r_aload_n (pc := 525) h 4 d_L_law_525 rfl rfl ?_
  refine r_iload (pc := 526) h 0 d_L_law_526 rfl ?_
  refine r_iconst (pc := 528) h (v := nI 3) d_L_law_528 (by decide) ?_
  refine r_iadd (pc := 529) h (z := nI (i + 3)) d_L_law_529 (nI_add _ _) ?_
  refine r_sld (pc := 530) h hS (i + 3) (z := xs (i + 3)) d_L_law_530 rfl (by omega) rfl ?_
  refine r_aload_n (pc := 531) h 4 d_L_law_531 rfl rfl ?_
  refine r_iload (pc := 532) h 0 d_L_law_532 rfl ?_
  refine r_iconst (pc := 534) h (v := nI 4) d_L_law_534 (by decide) ?_
  refine r_iadd (pc := 535) h (z := nI (i + 4)) d_L_law_535 (nI_add _ _) ?_
  refine r_sld (pc := 536) h hS (i + 4) (z := xs (i + 4)) d_L_law_536 rfl (by omega) rfl ?_
  refine r_if_eq_t (pc := 537) h (tgt := 544) d_L_law_537 (by decide) hz ?_
  refine r_iconst (pc := 544) h (v := bI false) d_L_law_544 (by decide) ?_
  refine r_invSH (pc := 545) h (st := []) d_L_law_545 ((hx_bound hl (xs (i + 1)) (xs (i + 2)) (xs (i + 3)) (bI false) hB).frame (mw G b th rg mk fi fa)) w_213 w_211 w_0 w_212 hd_L_bound ⟨(Nat.le_of_ble_eq_true rfl), (Nat.le_of_ble_eq_true rfl)⟩ rfl rfl rfl rfl (Nat.le_of_ble_eq_true rfl) ⟨hc, hs⟩ ?_
  rintro v9 ws9 ⟨ws8, ⟨rfl, rfl⟩, rfl⟩
  refine ⟨rfl, ?_⟩
  show Wv p l e room_1 s m args below meth c G A 7 (cells + 1) (slots + 6) Q (((cw G a hd wk sp ct ky nm) ++ oc G o of) ++ (mw G b th rg mk fi fa)) 548 [(4, .int (nI i)), (3, .ref o), (2, .ref (b 0)), (1, .ref (a 0)), (0, .ref B)] [.int (nI 1)]
  refine r_istore (pc := 548) h (lv' := [(5, .int (nI 1)), (4, .int (nI i)), (3, .ref o), (2, .ref (b 0)), (1, .ref (a 0)), (0, .ref B)]) d_L_law_548 (by decide) rfl ?_
  refine r_aload_n (pc := 550) h 3 d_L_law_550 rfl rfl ?_
  refine r_aload_n (pc := 551) h 5 d_L_law_551 rfl rfl ?_
  refine r_iload (pc := 552) h 1 d_L_law_552 rfl ?_
  refine r_iconst (pc := 554) h (v := nI 1) d_L_law_554 (by decide) ?_
  refine r_iadd (pc := 555) h (z := nI (i + 1)) d_L_law_555 (nI_add _ _) ?_
  refine r_sld (pc := 556) h hS (i + 1) (z := xs (i + 1)) d_L_law_556 rfl (by omega) rfl ?_
  refine r_aload_n (pc := 557) h 5 d_L_law_557 rfl rfl ?_
  refine r_iload (pc := 558) h 1 d_L_law_558 rfl ?_
  refine r_iconst (pc := 560) h (v := nI 2) d_L_law_560 (by decide) ?_
  refine r_iadd (pc := 561) h (z := nI (i + 2)) d_L_law_561 (nI_add _ _) ?_
  refine r_sld (pc := 562) h hS (i + 2) (z := xs (i + 2)) d_L_law_562 rfl (by omega) rfl ?_
  refine r_aload_n (pc := 563) h 5 d_L_law_563 rfl rfl ?_
  refine r_iload (pc := 564) h 1 d_L_law_564 rfl ?_
  refine r_iconst (pc := 566) h (v := nI 3) d_L_law_566 (by decide) ?_
  refine r_iadd (pc := 567) h (z := nI (i + 3)) d_L_law_567 (nI_add _ _) ?_
  refine r_sld (pc := 568) h hS (i + 3) (z := xs (i + 3)) d_L_law_568 rfl (by omega) rfl ?_
  refine r_aload_n (pc := 569) h 5 d_L_law_569 rfl rfl ?_
  refine r_iload (pc := 570) h 1 d_L_law_570 rfl ?_
  refine r_iconst (pc := 572) h (v := nI 4) d_L_law_572 (by decide) ?_
  refine r_iadd (pc := 573) h (z := nI (i + 4)) d_L_law_573 (nI_add _ _) ?_
  refine r_sld (pc := 574) h hS (i + 4) (z := xs (i + 4)) d_L_law_574 rfl (by omega) rfl ?_
  refine r_if_eq_t (pc := 575) h (tgt := 582) d_L_law_575 (by decide) hz ?_
  refine r_iconst (pc := 582) h (v := bI false) d_L_law_582 (by decide) ?_
  refine Wv.swp ?_
  refine r_invVv (pc := 583) h 0 (st := []) d_L_law_583 ((x_bound (xs (i + 1)) (xs (i + 2)) (xs (i + 3)) (bI false) hB).frame ((cw G a hd wk sp ct ky nm) ++ oc G o of)) (r_cV h wc_M_bound w_416 w_3 w_417 w_418 hd_M_bound ⟨(Nat.le_of_ble_eq_true rfl), (Nat.le_of_ble_eq_true rfl)⟩ rfl rfl) (ap_l mw_0) rfl rfl rfl (Nat.le_of_ble_eq_true rfl) ⟨hc, hs⟩ rfl ?_
  refine r_aload_n (pc := 586) h 3 d_L_law_586 rfl rfl ?_
  refine r_invVa (pc := 587) h 0 (st := []) d_L_law_587 ((c_thrown).frame ((cw G a hd wk sp ct ky nm) ++ oc G o of)) (r_cV h wc_M_thrown w_370 w_3 w_371 w_372 hd_M_thrown ⟨(Nat.le_of_ble_eq_true rfl), (Nat.le_of_ble_eq_true rfl)⟩ rfl rfl) (ap_l mw_0) rfl rfl rfl (Nat.le_of_ble_eq_true rfl) ⟨hc, hs⟩ rfl ?_
  refine Wv.swp ?_
  refine r_iload (pc := 590) h 0 d_L_law_590 rfl ?_
  refine r_icmp_eq_t (pc := 592) h (tgt := 597) d_L_law_592 (by decide) (by decide) ?_
  refine r_goto (pc := 597) h (tgt := 1114) d_L_law_597 (by decide) ?_
  refine Wv.sub [1, 2, 3, 4, 5] rfl ?_
  exact K _ _ _ _ _ _ _ _ _ _ _ _ hT
theorem lx_bound_true (h : Fx p m c s args meth "DiagramBenchLaw" code 7 (wd :: TT) G A) (hl : l.stackTraces = false) (hS : Sc A B L xs s) (hi : i + 5 ≤ L) (hc : cells + 1 ≤ room_1.cells) (hs : slots + 6 ≤ room_1.slots) (hT : tie hd rg) (K : Lq p l e s m args below meth c G A (cells + 1) (slots + 6) Q a o b 1114 (lvL a b o B i)) (hB : ¬ (okR 16 (xs (i + 1)) ∧ okR 16 (xs (i + 2)) ∧ okR 1024 (xs (i + 3)))) (hz : xs (i + 4) ≠ 0) : Wv p l e room_1 s m args below meth c G A 7 cells slots Q (lW G a o b hd wk sp ct ky nm of th rg mk fi fa) 512 (lvL a b o B i) [] := by
  refine r_aload_n (pc := 512) h 3 d_L_law_512 rfl rfl ?_
  refine r_aload_n (pc := 513) h 4 d_L_law_513 rfl rfl ?_
  refine r_iload (pc := 514) h 0 d_L_law_514 rfl ?_
  refine r_iconst (pc := 516) h (v := nI 1) d_L_law_516 (by decide) ?_
  refine r_iadd (pc := 517) h (z := nI (i + 1)) d_L_law_517 (nI_add _ _) ?_
  refine r_sld (pc := 518) h hS (i + 1) (z := xs (i + 1)) d_L_law_518 rfl (by omega) rfl ?_
  refine r_aload_n (pc := 519) h 4 d_L_law_519 rfl rfl ?_
  refine r_iload (pc := 520) h 0 d_L_law_520 rfl ?_
  refine r_iconst (pc := 522) h (v := nI 2) d_L_law_522 (by decide) ?_
  refine r_iadd (pc := 523) h (z := nI (i + 2)) d_L_law_523 (nI_add _ _) ?_
  refine r_sld (pc := 524) h hS (i + 2) (z := xs (i + 2)) d_L_law_524 rfl (by omega) rfl ?_
  refine r_aload_n (pc := 525) h 4 d_L_law_525 rfl rfl ?_
  refine r_iload (pc := 526) h 0 d_L_law_526 rfl ?_
  refine r_iconst (pc := 528) h (v := nI 3) d_L_law_528 (by decide) ?_
  refine r_iadd (pc := 529) h (z := nI (i + 3)) d_L_law_529 (nI_add _ _) ?_
  refine r_sld (pc := 530) h hS (i + 3) (z := xs (i + 3)) d_L_law_530 rfl (by omega) rfl ?_
  refine r_aload_n (pc := 531) h 4 d_L_law_531 rfl rfl ?_
  refine r_iload (pc := 532) h 0 d_L_law_532 rfl ?_
  refine r_iconst (pc := 534) h (v := nI 4) d_L_law_534 (by decide) ?_
  refine r_iadd (pc := 535) h (z := nI (i + 4)) d_L_law_535 (nI_add _ _) ?_
  refine r_sld (pc := 536) h hS (i + 4) (z := xs (i + 4)) d_L_law_536 rfl (by omega) rfl ?_
  refine r_if_eq_f (pc := 537) h (tgt := 544) d_L_law_537 (by decide) hz ?_
  refine r_iconst (pc := 540) h (v := bI true) d_L_law_540 (by decide) ?_
  refine r_goto (pc := 541) h (tgt := 545) d_L_law_541 (by decide) ?_
  refine r_invSH (pc := 545) h (st := []) d_L_law_545 ((hx_bound hl (xs (i + 1)) (xs (i + 2)) (xs (i + 3)) (bI true) hB).frame (mw G b th rg mk fi fa)) w_213 w_211 w_0 w_212 hd_L_bound ⟨(Nat.le_of_ble_eq_true rfl), (Nat.le_of_ble_eq_true rfl)⟩ rfl rfl rfl rfl (Nat.le_of_ble_eq_true rfl) ⟨hc, hs⟩ ?_
  rintro v9 ws9 ⟨ws8, ⟨rfl, rfl⟩, rfl⟩
  refine ⟨rfl, ?_⟩
  show Wv p l e room_1 s m args below meth c G A 7 (cells + 1) (slots + 6) Q (((cw G a hd wk sp ct ky nm) ++ oc G o of) ++ (mw G b th rg mk fi fa)) 548 [(4, .int (nI i)), (3, .ref o), (2, .ref (b 0)), (1, .ref (a 0)), (0, .ref B)] [.int (nI 1)]
  refine r_istore (pc := 548) h (lv' := [(5, .int (nI 1)), (4, .int (nI i)), (3, .ref o), (2, .ref (b 0)), (1, .ref (a 0)), (0, .ref B)]) d_L_law_548 (by decide) rfl ?_
  refine r_aload_n (pc := 550) h 3 d_L_law_550 rfl rfl ?_
  refine r_aload_n (pc := 551) h 5 d_L_law_551 rfl rfl ?_
  refine r_iload (pc := 552) h 1 d_L_law_552 rfl ?_
  refine r_iconst (pc := 554) h (v := nI 1) d_L_law_554 (by decide) ?_
  refine r_iadd (pc := 555) h (z := nI (i + 1)) d_L_law_555 (nI_add _ _) ?_
  refine r_sld (pc := 556) h hS (i + 1) (z := xs (i + 1)) d_L_law_556 rfl (by omega) rfl ?_
  refine r_aload_n (pc := 557) h 5 d_L_law_557 rfl rfl ?_
  refine r_iload (pc := 558) h 1 d_L_law_558 rfl ?_
  refine r_iconst (pc := 560) h (v := nI 2) d_L_law_560 (by decide) ?_
  refine r_iadd (pc := 561) h (z := nI (i + 2)) d_L_law_561 (nI_add _ _) ?_
  refine r_sld (pc := 562) h hS (i + 2) (z := xs (i + 2)) d_L_law_562 rfl (by omega) rfl ?_
  refine r_aload_n (pc := 563) h 5 d_L_law_563 rfl rfl ?_
  refine r_iload (pc := 564) h 1 d_L_law_564 rfl ?_
  refine r_iconst (pc := 566) h (v := nI 3) d_L_law_566 (by decide) ?_
  refine r_iadd (pc := 567) h (z := nI (i + 3)) d_L_law_567 (nI_add _ _) ?_
  refine r_sld (pc := 568) h hS (i + 3) (z := xs (i + 3)) d_L_law_568 rfl (by omega) rfl ?_
  refine r_aload_n (pc := 569) h 5 d_L_law_569 rfl rfl ?_
  refine r_iload (pc := 570) h 1 d_L_law_570 rfl ?_
  refine r_iconst (pc := 572) h (v := nI 4) d_L_law_572 (by decide) ?_
  refine r_iadd (pc := 573) h (z := nI (i + 4)) d_L_law_573 (nI_add _ _) ?_
  refine r_sld (pc := 574) h hS (i + 4) (z := xs (i + 4)) d_L_law_574 rfl (by omega) rfl ?_
  refine r_if_eq_f (pc := 575) h (tgt := 582) d_L_law_575 (by decide) hz ?_
  refine r_iconst (pc := 578) h (v := bI true) d_L_law_578 (by decide) ?_
  refine r_goto (pc := 579) h (tgt := 583) d_L_law_579 (by decide) ?_
  refine Wv.swp ?_
  refine r_invVv (pc := 583) h 0 (st := []) d_L_law_583 ((x_bound (xs (i + 1)) (xs (i + 2)) (xs (i + 3)) (bI true) hB).frame ((cw G a hd wk sp ct ky nm) ++ oc G o of)) (r_cV h wc_M_bound w_416 w_3 w_417 w_418 hd_M_bound ⟨(Nat.le_of_ble_eq_true rfl), (Nat.le_of_ble_eq_true rfl)⟩ rfl rfl) (ap_l mw_0) rfl rfl rfl (Nat.le_of_ble_eq_true rfl) ⟨hc, hs⟩ rfl ?_
  refine r_aload_n (pc := 586) h 3 d_L_law_586 rfl rfl ?_
  refine r_invVa (pc := 587) h 0 (st := []) d_L_law_587 ((c_thrown).frame ((cw G a hd wk sp ct ky nm) ++ oc G o of)) (r_cV h wc_M_thrown w_370 w_3 w_371 w_372 hd_M_thrown ⟨(Nat.le_of_ble_eq_true rfl), (Nat.le_of_ble_eq_true rfl)⟩ rfl rfl) (ap_l mw_0) rfl rfl rfl (Nat.le_of_ble_eq_true rfl) ⟨hc, hs⟩ rfl ?_
  refine Wv.swp ?_
  refine r_iload (pc := 590) h 0 d_L_law_590 rfl ?_
  refine r_icmp_eq_t (pc := 592) h (tgt := 597) d_L_law_592 (by decide) (by decide) ?_
  refine r_goto (pc := 597) h (tgt := 1114) d_L_law_597 (by decide) ?_
  refine Wv.sub [1, 2, 3, 4, 5] rfl ?_
  exact K _ _ _ _ _ _ _ _ _ _ _ _ hT
theorem lx_swap (h : Fx p m c s args meth "DiagramBenchLaw" code 7 (wd :: TT) G A) (hl : l.stackTraces = false) (hS : Sc A B L xs s) (hi : i + 5 ≤ L) (hc : cells + 1 ≤ room_1.cells) (hs : slots + 6 ≤ room_1.slots) (hT : tie hd rg) (K : Lq p l e s m args below meth c G A (cells + 1) (slots + 6) Q a o b 1114 (lvL a b o B i)) (hB : ¬ (okR 16 (xs (i + 1)) ∧ okR 16 (xs (i + 2)) ∧ okR 10 (xs (i + 3)) ∧ okR 10 (xs (i + 4)))) : Wv p l e room_1 s m args below meth c G A 7 cells slots Q (lW G a o b hd wk sp ct ky nm of th rg mk fi fa) 600 (lvL a b o B i) [] := by
  refine r_aload_n (pc := 600) h 3 d_L_law_600 rfl rfl ?_
  refine r_aload_n (pc := 601) h 4 d_L_law_601 rfl rfl ?_
  refine r_iload (pc := 602) h 0 d_L_law_602 rfl ?_
  refine r_iconst (pc := 604) h (v := nI 1) d_L_law_604 (by decide) ?_
  refine r_iadd (pc := 605) h (z := nI (i + 1)) d_L_law_605 (nI_add _ _) ?_
  refine r_sld (pc := 606) h hS (i + 1) (z := xs (i + 1)) d_L_law_606 rfl (by omega) rfl ?_
  refine r_aload_n (pc := 607) h 4 d_L_law_607 rfl rfl ?_
  refine r_iload (pc := 608) h 0 d_L_law_608 rfl ?_
  refine r_iconst (pc := 610) h (v := nI 2) d_L_law_610 (by decide) ?_
  refine r_iadd (pc := 611) h (z := nI (i + 2)) d_L_law_611 (nI_add _ _) ?_
  refine r_sld (pc := 612) h hS (i + 2) (z := xs (i + 2)) d_L_law_612 rfl (by omega) rfl ?_
  refine r_aload_n (pc := 613) h 4 d_L_law_613 rfl rfl ?_
  refine r_iload (pc := 614) h 0 d_L_law_614 rfl ?_
  refine r_iconst (pc := 616) h (v := nI 3) d_L_law_616 (by decide) ?_
  refine r_iadd (pc := 617) h (z := nI (i + 3)) d_L_law_617 (nI_add _ _) ?_
  refine r_sld (pc := 618) h hS (i + 3) (z := xs (i + 3)) d_L_law_618 rfl (by omega) rfl ?_
  refine r_aload_n (pc := 619) h 4 d_L_law_619 rfl rfl ?_
  refine r_iload (pc := 620) h 0 d_L_law_620 rfl ?_
  refine r_iconst (pc := 622) h (v := nI 4) d_L_law_622 (by decide) ?_
  refine r_iadd (pc := 623) h (z := nI (i + 4)) d_L_law_623 (nI_add _ _) ?_
  refine r_sld (pc := 624) h hS (i + 4) (z := xs (i + 4)) d_L_law_624 rfl (by omega) rfl ?_
  refine r_invSH (pc := 625) h (st := []) d_L_law_625 ((hx_swap hl (xs (i + 1)) (xs (i + 2)) (xs (i + 3)) (xs (i + 4)) hB).frame (mw G b th rg mk fi fa)) w_228 w_226 w_0 w_227 hd_L_swap ⟨(Nat.le_of_ble_eq_true rfl), (Nat.le_of_ble_eq_true rfl)⟩ rfl rfl rfl rfl (Nat.le_of_ble_eq_true rfl) ⟨hc, hs⟩ ?_
  rintro v9 ws9 ⟨ws8, ⟨rfl, rfl⟩, rfl⟩
  refine ⟨rfl, ?_⟩
  show Wv p l e room_1 s m args below meth c G A 7 (cells + 1) (slots + 6) Q (((cw G a hd wk sp ct ky nm) ++ oc G o of) ++ (mw G b th rg mk fi fa)) 628 [(4, .int (nI i)), (3, .ref o), (2, .ref (b 0)), (1, .ref (a 0)), (0, .ref B)] [.int (nI 1)]
  refine r_istore (pc := 628) h (lv' := [(5, .int (nI 1)), (4, .int (nI i)), (3, .ref o), (2, .ref (b 0)), (1, .ref (a 0)), (0, .ref B)]) d_L_law_628 (by decide) rfl ?_
  refine r_aload_n (pc := 630) h 3 d_L_law_630 rfl rfl ?_
  refine r_aload_n (pc := 631) h 5 d_L_law_631 rfl rfl ?_
  refine r_iload (pc := 632) h 1 d_L_law_632 rfl ?_
  refine r_iconst (pc := 634) h (v := nI 1) d_L_law_634 (by decide) ?_
  refine r_iadd (pc := 635) h (z := nI (i + 1)) d_L_law_635 (nI_add _ _) ?_
  refine r_sld (pc := 636) h hS (i + 1) (z := xs (i + 1)) d_L_law_636 rfl (by omega) rfl ?_
  refine r_aload_n (pc := 637) h 5 d_L_law_637 rfl rfl ?_
  refine r_iload (pc := 638) h 1 d_L_law_638 rfl ?_
  refine r_iconst (pc := 640) h (v := nI 2) d_L_law_640 (by decide) ?_
  refine r_iadd (pc := 641) h (z := nI (i + 2)) d_L_law_641 (nI_add _ _) ?_
  refine r_sld (pc := 642) h hS (i + 2) (z := xs (i + 2)) d_L_law_642 rfl (by omega) rfl ?_
  refine r_aload_n (pc := 643) h 5 d_L_law_643 rfl rfl ?_
  refine r_iload (pc := 644) h 1 d_L_law_644 rfl ?_
  refine r_iconst (pc := 646) h (v := nI 3) d_L_law_646 (by decide) ?_
  refine r_iadd (pc := 647) h (z := nI (i + 3)) d_L_law_647 (nI_add _ _) ?_
  refine r_sld (pc := 648) h hS (i + 3) (z := xs (i + 3)) d_L_law_648 rfl (by omega) rfl ?_
  refine r_aload_n (pc := 649) h 5 d_L_law_649 rfl rfl ?_
  refine r_iload (pc := 650) h 1 d_L_law_650 rfl ?_
  refine r_iconst (pc := 652) h (v := nI 4) d_L_law_652 (by decide) ?_
  refine r_iadd (pc := 653) h (z := nI (i + 4)) d_L_law_653 (nI_add _ _) ?_
  refine r_sld (pc := 654) h hS (i + 4) (z := xs (i + 4)) d_L_law_654 rfl (by omega) rfl ?_
  refine Wv.swp ?_
  refine r_invVv (pc := 655) h 0 (st := []) d_L_law_655 ((x_swap (xs (i + 1)) (xs (i + 2)) (xs (i + 3)) (xs (i + 4)) hB).frame ((cw G a hd wk sp ct ky nm) ++ oc G o of)) (r_cV h wc_M_swap w_420 w_3 w_421 w_422 hd_M_swap ⟨(Nat.le_of_ble_eq_true rfl), (Nat.le_of_ble_eq_true rfl)⟩ rfl rfl) (ap_l mw_0) rfl rfl rfl (Nat.le_of_ble_eq_true rfl) ⟨hc, hs⟩ rfl ?_
  refine r_aload_n (pc := 658) h 3 d_L_law_658 rfl rfl ?_
  refine r_invVa (pc := 659) h 0 (st := []) d_L_law_659 ((c_thrown).frame ((cw G a hd wk sp ct ky nm) ++ oc G o of)) (r_cV h wc_M_thrown w_370 w_3 w_371 w_372 hd_M_thrown ⟨(Nat.le_of_ble_eq_true rfl), (Nat.le_of_ble_eq_true rfl)⟩ rfl rfl) (ap_l mw_0) rfl rfl rfl (Nat.le_of_ble_eq_true rfl) ⟨hc, hs⟩ rfl ?_
  refine Wv.swp ?_
  refine r_iload (pc := 662) h 0 d_L_law_662 rfl ?_
  refine r_icmp_eq_t (pc := 664) h (tgt := 669) d_L_law_664 (by decide) (by decide) ?_
  refine r_goto (pc := 669) h (tgt := 1114) d_L_law_669 (by decide) ?_
  refine Wv.sub [1, 2, 3, 4, 5] rfl ?_
  exact K _ _ _ _ _ _ _ _ _ _ _ _ hT
theorem lx_is (h : Fx p m c s args meth "DiagramBenchLaw" code 7 (wd :: TT) G A) (hl : l.stackTraces = false) (hS : Sc A B L xs s) (hi : i + 5 ≤ L) (hc : cells + 1 ≤ room_1.cells) (hs : slots + 6 ≤ room_1.slots) (hT : tie hd rg) (K : Lq p l e s m args below meth c G A (cells + 1) (slots + 6) Q a o b 1114 (lvL a b o B i)) (hB : ¬ (okR 16 (xs (i + 1)) ∧ okR 1024 (xs (i + 2)))) : Wv p l e room_1 s m args below meth c G A 7 cells slots Q (lW G a o b hd wk sp ct ky nm of th rg mk fi fa) 672 (lvL a b o B i) [] := by
  refine r_aload_n (pc := 672) h 3 d_L_law_672 rfl rfl ?_
  refine r_aload_n (pc := 673) h 4 d_L_law_673 rfl rfl ?_
  refine r_iload (pc := 674) h 0 d_L_law_674 rfl ?_
  refine r_iconst (pc := 676) h (v := nI 1) d_L_law_676 (by decide) ?_
  refine r_iadd (pc := 677) h (z := nI (i + 1)) d_L_law_677 (nI_add _ _) ?_
  refine r_sld (pc := 678) h hS (i + 1) (z := xs (i + 1)) d_L_law_678 rfl (by omega) rfl ?_
  refine r_aload_n (pc := 679) h 4 d_L_law_679 rfl rfl ?_
  refine r_iload (pc := 680) h 0 d_L_law_680 rfl ?_
  refine r_iconst (pc := 682) h (v := nI 2) d_L_law_682 (by decide) ?_
  refine r_iadd (pc := 683) h (z := nI (i + 2)) d_L_law_683 (nI_add _ _) ?_
  refine r_sld (pc := 684) h hS (i + 2) (z := xs (i + 2)) d_L_law_684 rfl (by omega) rfl ?_
  refine r_aload_n (pc := 685) h 1 d_L_law_685 rfl rfl ?_
  refine r_invSH (pc := 686) h (st := []) d_L_law_686 ((hx_is hl (xs (i + 1)) (xs (i + 2)) hB).frame (mw G b th rg mk fi fa)) w_235 w_233 w_0 w_234 hd_L_is ⟨(Nat.le_of_ble_eq_true rfl), (Nat.le_of_ble_eq_true rfl)⟩ rfl rfl rfl rfl (Nat.le_of_ble_eq_true rfl) ⟨hc, hs⟩ ?_
  rintro v9 ws9 ⟨ws8, ⟨rfl, rfl⟩, rfl⟩
  refine ⟨rfl, ?_⟩
  show Wv p l e room_1 s m args below meth c G A 7 (cells + 1) (slots + 6) Q (((cw G a hd wk sp ct ky nm) ++ oc G o of) ++ (mw G b th rg mk fi fa)) 689 [(4, .int (nI i)), (3, .ref o), (2, .ref (b 0)), (1, .ref (a 0)), (0, .ref B)] [.int (nI 1)]
  refine r_istore (pc := 689) h (lv' := [(5, .int (nI 1)), (4, .int (nI i)), (3, .ref o), (2, .ref (b 0)), (1, .ref (a 0)), (0, .ref B)]) d_L_law_689 (by decide) rfl ?_
  refine r_aload_n (pc := 691) h 3 d_L_law_691 rfl rfl ?_
  refine r_aload_n (pc := 692) h 5 d_L_law_692 rfl rfl ?_
  refine r_iload (pc := 693) h 1 d_L_law_693 rfl ?_
  refine r_iconst (pc := 695) h (v := nI 1) d_L_law_695 (by decide) ?_
  refine r_iadd (pc := 696) h (z := nI (i + 1)) d_L_law_696 (nI_add _ _) ?_
  refine r_sld (pc := 697) h hS (i + 1) (z := xs (i + 1)) d_L_law_697 rfl (by omega) rfl ?_
  refine r_aload_n (pc := 698) h 5 d_L_law_698 rfl rfl ?_
  refine r_iload (pc := 699) h 1 d_L_law_699 rfl ?_
  refine r_iconst (pc := 701) h (v := nI 2) d_L_law_701 (by decide) ?_
  refine r_iadd (pc := 702) h (z := nI (i + 2)) d_L_law_702 (nI_add _ _) ?_
  refine r_sld (pc := 703) h hS (i + 2) (z := xs (i + 2)) d_L_law_703 rfl (by omega) rfl ?_
  refine Wv.swp ?_
  refine r_invVa (pc := 704) h 0 (st := []) d_L_law_704 ((x_is (xs (i + 1)) (xs (i + 2)) hB).frame ((cw G a hd wk sp ct ky nm) ++ oc G o of)) (r_cV h wc_M_is w_424 w_3 w_425 w_426 hd_M_is ⟨(Nat.le_of_ble_eq_true rfl), (Nat.le_of_ble_eq_true rfl)⟩ rfl rfl) (ap_l mw_0) rfl rfl rfl (Nat.le_of_ble_eq_true rfl) ⟨hc, hs⟩ rfl ?_
  refine r_istore (pc := 707) h (lv' := [(6, .int (bI false)), (5, .int (nI 1)), (4, .int (nI i)), (3, .ref o), (2, .ref (b 0)), (1, .ref (a 0)), (0, .ref B)]) d_L_law_707 (by decide) rfl ?_
  refine r_aload_n (pc := 709) h 4 d_L_law_709 rfl rfl ?_
  refine r_invVa (pc := 710) h 0 (st := []) d_L_law_710 ((c_thrown).frame ((cw G a hd wk sp ct ky nm) ++ oc G o of)) (r_cV h wc_M_thrown w_370 w_3 w_371 w_372 hd_M_thrown ⟨(Nat.le_of_ble_eq_true rfl), (Nat.le_of_ble_eq_true rfl)⟩ rfl rfl) (ap_l mw_0) rfl rfl rfl (Nat.le_of_ble_eq_true rfl) ⟨hc, hs⟩ rfl ?_
  refine Wv.swp ?_
  refine r_iload (pc := 713) h 1 d_L_law_713 rfl ?_
  refine r_icmp_eq_t (pc := 715) h (tgt := 720) d_L_law_715 (by decide) (by decide) ?_
  refine r_iload (pc := 720) h 1 d_L_law_720 rfl ?_
  refine r_if_ne_t (pc := 722) h (tgt := 744) d_L_law_722 (by decide) (by decide) ?_
  refine r_goto (pc := 744) h (tgt := 1114) d_L_law_744 (by decide) ?_
  refine Wv.sub [2, 3, 4, 5, 6] rfl ?_
  exact K _ _ _ _ _ _ _ _ _ _ _ _ hT
theorem lx_ways (h : Fx p m c s args meth "DiagramBenchLaw" code 7 (wd :: TT) G A) (hl : l.stackTraces = false) (hS : Sc A B L xs s) (hi : i + 5 ≤ L) (hc : cells + 1 ≤ room_1.cells) (hs : slots + 6 ≤ room_1.slots) (hT : tie hd rg) (K : Lq p l e s m args below meth c G A (cells + 1) (slots + 6) Q a o b 1114 (lvL a b o B i)) (hB : ¬ (okR 16 (xs (i + 1)))) : Wv p l e room_1 s m args below meth c G A 7 cells slots Q (lW G a o b hd wk sp ct ky nm of th rg mk fi fa) 747 (lvL a b o B i) [] := by
  refine r_aload_n (pc := 747) h 3 d_L_law_747 rfl rfl ?_
  refine r_aload_n (pc := 748) h 4 d_L_law_748 rfl rfl ?_
  refine r_iload (pc := 749) h 0 d_L_law_749 rfl ?_
  refine r_iconst (pc := 751) h (v := nI 1) d_L_law_751 (by decide) ?_
  refine r_iadd (pc := 752) h (z := nI (i + 1)) d_L_law_752 (nI_add _ _) ?_
  refine r_sld (pc := 753) h hS (i + 1) (z := xs (i + 1)) d_L_law_753 rfl (by omega) rfl ?_
  refine r_aload_n (pc := 754) h 1 d_L_law_754 rfl rfl ?_
  refine r_invSH (pc := 755) h (st := []) d_L_law_755 ((hx_ways hl (xs (i + 1)) hB).frame (mw G b th rg mk fi fa)) w_245 w_243 w_0 w_244 hd_L_ways ⟨(Nat.le_of_ble_eq_true rfl), (Nat.le_of_ble_eq_true rfl)⟩ rfl rfl rfl rfl (Nat.le_of_ble_eq_true rfl) ⟨hc, hs⟩ ?_
  rintro v9 ws9 ⟨ws8, ⟨rfl, rfl⟩, rfl⟩
  refine ⟨rfl, ?_⟩
  show Wv p l e room_1 s m args below meth c G A 7 (cells + 1) (slots + 6) Q (((cw G a hd wk sp ct ky nm) ++ oc G o of) ++ (mw G b th rg mk fi fa)) 758 [(4, .int (nI i)), (3, .ref o), (2, .ref (b 0)), (1, .ref (a 0)), (0, .ref B)] [.int (nI 1)]
  refine r_istore (pc := 758) h (lv' := [(5, .int (nI 1)), (4, .int (nI i)), (3, .ref o), (2, .ref (b 0)), (1, .ref (a 0)), (0, .ref B)]) d_L_law_758 (by decide) rfl ?_
  refine r_aload_n (pc := 760) h 3 d_L_law_760 rfl rfl ?_
  refine r_aload_n (pc := 761) h 5 d_L_law_761 rfl rfl ?_
  refine r_iload (pc := 762) h 1 d_L_law_762 rfl ?_
  refine r_iconst (pc := 764) h (v := nI 1) d_L_law_764 (by decide) ?_
  refine r_iadd (pc := 765) h (z := nI (i + 1)) d_L_law_765 (nI_add _ _) ?_
  refine r_sld (pc := 766) h hS (i + 1) (z := xs (i + 1)) d_L_law_766 rfl (by omega) rfl ?_
  refine Wv.swp ?_
  refine r_invVa (pc := 767) h 0 (st := []) d_L_law_767 ((x_ways (xs (i + 1)) hB).frame ((cw G a hd wk sp ct ky nm) ++ oc G o of)) (r_cV h wc_M_ways w_428 w_3 w_429 w_430 hd_M_ways ⟨(Nat.le_of_ble_eq_true rfl), (Nat.le_of_ble_eq_true rfl)⟩ rfl rfl) (ap_l mw_0) rfl rfl rfl (Nat.le_of_ble_eq_true rfl) ⟨hc, hs⟩ rfl ?_
  refine r_istore (pc := 770) h (lv' := [(6, .int (nI 0)), (5, .int (nI 1)), (4, .int (nI i)), (3, .ref o), (2, .ref (b 0)), (1, .ref (a 0)), (0, .ref B)]) d_L_law_770 (by decide) rfl ?_
  refine r_aload_n (pc := 772) h 4 d_L_law_772 rfl rfl ?_
  refine r_invVa (pc := 773) h 0 (st := []) d_L_law_773 ((c_thrown).frame ((cw G a hd wk sp ct ky nm) ++ oc G o of)) (r_cV h wc_M_thrown w_370 w_3 w_371 w_372 hd_M_thrown ⟨(Nat.le_of_ble_eq_true rfl), (Nat.le_of_ble_eq_true rfl)⟩ rfl rfl) (ap_l mw_0) rfl rfl rfl (Nat.le_of_ble_eq_true rfl) ⟨hc, hs⟩ rfl ?_
  refine Wv.swp ?_
  refine r_iload (pc := 776) h 1 d_L_law_776 rfl ?_
  refine r_icmp_eq_t (pc := 778) h (tgt := 783) d_L_law_778 (by decide) (by decide) ?_
  refine r_iload (pc := 783) h 1 d_L_law_783 rfl ?_
  refine r_if_ne_t (pc := 785) h (tgt := 800) d_L_law_785 (by decide) (by decide) ?_
  refine r_goto (pc := 800) h (tgt := 1114) d_L_law_800 (by decide) ?_
  refine Wv.sub [2, 3, 4, 5, 6] rfl ?_
  exact K _ _ _ _ _ _ _ _ _ _ _ _ hT
theorem lx_first (h : Fx p m c s args meth "DiagramBenchLaw" code 7 (wd :: TT) G A) (hl : l.stackTraces = false) (hS : Sc A B L xs s) (hi : i + 5 ≤ L) (hc : cells + 1 ≤ room_1.cells) (hs : slots + 6 ≤ room_1.slots) (hT : tie hd rg) (K : Lq p l e s m args below meth c G A (cells + 1) (slots + 6) Q a o b 1114 (lvL a b o B i)) (hB : ¬ (okR 16 (xs (i + 1)))) : Wv p l e room_1 s m args below meth c G A 7 cells slots Q (lW G a o b hd wk sp ct ky nm of th rg mk fi fa) 803 (lvL a b o B i) [] := by
  refine r_aload_n (pc := 803) h 3 d_L_law_803 rfl rfl ?_
  refine r_aload_n (pc := 804) h 4 d_L_law_804 rfl rfl ?_
  refine r_iload (pc := 805) h 0 d_L_law_805 rfl ?_
  refine r_iconst (pc := 807) h (v := nI 1) d_L_law_807 (by decide) ?_
  refine r_iadd (pc := 808) h (z := nI (i + 1)) d_L_law_808 (nI_add _ _) ?_
  refine r_sld (pc := 809) h hS (i + 1) (z := xs (i + 1)) d_L_law_809 rfl (by omega) rfl ?_
  refine r_aload_n (pc := 810) h 1 d_L_law_810 rfl rfl ?_
  refine r_invSH (pc := 811) h (st := []) d_L_law_811 ((hx_first hl (xs (i + 1)) hB).frame (mw G b th rg mk fi fa)) w_258 w_256 w_0 w_257 hd_L_first ⟨(Nat.le_of_ble_eq_true rfl), (Nat.le_of_ble_eq_true rfl)⟩ rfl rfl rfl rfl (Nat.le_of_ble_eq_true rfl) ⟨hc, hs⟩ ?_
  rintro v9 ws9 ⟨ws8, ⟨rfl, rfl⟩, rfl⟩
  refine ⟨rfl, ?_⟩
  show Wv p l e room_1 s m args below meth c G A 7 (cells + 1) (slots + 6) Q (((cw G a hd wk sp ct ky nm) ++ oc G o of) ++ (mw G b th rg mk fi fa)) 814 [(4, .int (nI i)), (3, .ref o), (2, .ref (b 0)), (1, .ref (a 0)), (0, .ref B)] [.int (nI 1)]
  refine r_istore (pc := 814) h (lv' := [(5, .int (nI 1)), (4, .int (nI i)), (3, .ref o), (2, .ref (b 0)), (1, .ref (a 0)), (0, .ref B)]) d_L_law_814 (by decide) rfl ?_
  refine r_aload_n (pc := 816) h 3 d_L_law_816 rfl rfl ?_
  refine r_aload_n (pc := 817) h 5 d_L_law_817 rfl rfl ?_
  refine r_iload (pc := 818) h 1 d_L_law_818 rfl ?_
  refine r_iconst (pc := 820) h (v := nI 1) d_L_law_820 (by decide) ?_
  refine r_iadd (pc := 821) h (z := nI (i + 1)) d_L_law_821 (nI_add _ _) ?_
  refine r_sld (pc := 822) h hS (i + 1) (z := xs (i + 1)) d_L_law_822 rfl (by omega) rfl ?_
  refine Wv.swp ?_
  refine r_invVa (pc := 823) h 0 (st := []) d_L_law_823 ((x_first (xs (i + 1)) hB).frame ((cw G a hd wk sp ct ky nm) ++ oc G o of)) (r_cV h wc_M_first w_432 w_3 w_433 w_434 hd_M_first ⟨(Nat.le_of_ble_eq_true rfl), (Nat.le_of_ble_eq_true rfl)⟩ rfl rfl) (ap_l mw_0) rfl rfl rfl (Nat.le_of_ble_eq_true rfl) ⟨hc, hs⟩ rfl ?_
  refine r_istore (pc := 826) h (lv' := [(6, .int (nI 0)), (5, .int (nI 1)), (4, .int (nI i)), (3, .ref o), (2, .ref (b 0)), (1, .ref (a 0)), (0, .ref B)]) d_L_law_826 (by decide) rfl ?_
  refine r_aload_n (pc := 828) h 4 d_L_law_828 rfl rfl ?_
  refine r_invVa (pc := 829) h 0 (st := []) d_L_law_829 ((c_thrown).frame ((cw G a hd wk sp ct ky nm) ++ oc G o of)) (r_cV h wc_M_thrown w_370 w_3 w_371 w_372 hd_M_thrown ⟨(Nat.le_of_ble_eq_true rfl), (Nat.le_of_ble_eq_true rfl)⟩ rfl rfl) (ap_l mw_0) rfl rfl rfl (Nat.le_of_ble_eq_true rfl) ⟨hc, hs⟩ rfl ?_
  refine Wv.swp ?_
  refine r_iload (pc := 832) h 1 d_L_law_832 rfl ?_
  refine r_icmp_eq_t (pc := 834) h (tgt := 839) d_L_law_834 (by decide) (by decide) ?_
  refine r_iload (pc := 839) h 1 d_L_law_839 rfl ?_
  refine r_if_ne_t (pc := 841) h (tgt := 856) d_L_law_841 (by decide) (by decide) ?_
  refine r_goto (pc := 856) h (tgt := 1114) d_L_law_856 (by decide) ?_
  refine Wv.sub [2, 3, 4, 5, 6] rfl ?_
  exact K _ _ _ _ _ _ _ _ _ _ _ _ hT
theorem lx_hangs (h : Fx p m c s args meth "DiagramBenchLaw" code 7 (wd :: TT) G A) (hl : l.stackTraces = false) (hS : Sc A B L xs s) (hi : i + 5 ≤ L) (hc : cells + 1 ≤ room_1.cells) (hs : slots + 6 ≤ room_1.slots) (hT : tie hd rg) (K : Lq p l e s m args below meth c G A (cells + 1) (slots + 6) Q a o b 1114 (lvL a b o B i)) (hB : ¬ (okR 16 (xs (i + 1)))) : Wv p l e room_1 s m args below meth c G A 7 cells slots Q (lW G a o b hd wk sp ct ky nm of th rg mk fi fa) 859 (lvL a b o B i) [] := by
  refine r_aload_n (pc := 859) h 3 d_L_law_859 rfl rfl ?_
  refine r_aload_n (pc := 860) h 4 d_L_law_860 rfl rfl ?_
  refine r_iload (pc := 861) h 0 d_L_law_861 rfl ?_
  refine r_iconst (pc := 863) h (v := nI 1) d_L_law_863 (by decide) ?_
  refine r_iadd (pc := 864) h (z := nI (i + 1)) d_L_law_864 (nI_add _ _) ?_
  refine r_sld (pc := 865) h hS (i + 1) (z := xs (i + 1)) d_L_law_865 rfl (by omega) rfl ?_
  refine r_aload_n (pc := 866) h 1 d_L_law_866 rfl rfl ?_
  refine r_invSH (pc := 867) h (st := []) d_L_law_867 ((hx_hangs hl (xs (i + 1)) hB).frame (mw G b th rg mk fi fa)) w_290 w_288 w_0 w_289 hd_L_hangs ⟨(Nat.le_of_ble_eq_true rfl), (Nat.le_of_ble_eq_true rfl)⟩ rfl rfl rfl rfl (Nat.le_of_ble_eq_true rfl) ⟨hc, hs⟩ ?_
  rintro v9 ws9 ⟨ws8, ⟨rfl, rfl⟩, rfl⟩
  refine ⟨rfl, ?_⟩
  show Wv p l e room_1 s m args below meth c G A 7 (cells + 1) (slots + 6) Q (((cw G a hd wk sp ct ky nm) ++ oc G o of) ++ (mw G b th rg mk fi fa)) 870 [(4, .int (nI i)), (3, .ref o), (2, .ref (b 0)), (1, .ref (a 0)), (0, .ref B)] [.int (nI 1)]
  refine r_istore (pc := 870) h (lv' := [(5, .int (nI 1)), (4, .int (nI i)), (3, .ref o), (2, .ref (b 0)), (1, .ref (a 0)), (0, .ref B)]) d_L_law_870 (by decide) rfl ?_
  refine r_aload_n (pc := 872) h 3 d_L_law_872 rfl rfl ?_
  refine r_aload_n (pc := 873) h 5 d_L_law_873 rfl rfl ?_
  refine r_iload (pc := 874) h 1 d_L_law_874 rfl ?_
  refine r_iconst (pc := 876) h (v := nI 1) d_L_law_876 (by decide) ?_
  refine r_iadd (pc := 877) h (z := nI (i + 1)) d_L_law_877 (nI_add _ _) ?_
  refine r_sld (pc := 878) h hS (i + 1) (z := xs (i + 1)) d_L_law_878 rfl (by omega) rfl ?_
  refine Wv.swp ?_
  refine r_invVa (pc := 879) h 0 (st := []) d_L_law_879 ((x_hangs (xs (i + 1)) hB).frame ((cw G a hd wk sp ct ky nm) ++ oc G o of)) (r_cV h wc_M_hangs w_442 w_3 w_443 w_444 hd_M_hangs ⟨(Nat.le_of_ble_eq_true rfl), (Nat.le_of_ble_eq_true rfl)⟩ rfl rfl) (ap_l mw_0) rfl rfl rfl (Nat.le_of_ble_eq_true rfl) ⟨hc, hs⟩ rfl ?_
  refine r_istore (pc := 882) h (lv' := [(6, .int (nI 0)), (5, .int (nI 1)), (4, .int (nI i)), (3, .ref o), (2, .ref (b 0)), (1, .ref (a 0)), (0, .ref B)]) d_L_law_882 (by decide) rfl ?_
  refine r_aload_n (pc := 884) h 4 d_L_law_884 rfl rfl ?_
  refine r_invVa (pc := 885) h 0 (st := []) d_L_law_885 ((c_thrown).frame ((cw G a hd wk sp ct ky nm) ++ oc G o of)) (r_cV h wc_M_thrown w_370 w_3 w_371 w_372 hd_M_thrown ⟨(Nat.le_of_ble_eq_true rfl), (Nat.le_of_ble_eq_true rfl)⟩ rfl rfl) (ap_l mw_0) rfl rfl rfl (Nat.le_of_ble_eq_true rfl) ⟨hc, hs⟩ rfl ?_
  refine Wv.swp ?_
  refine r_iload (pc := 888) h 1 d_L_law_888 rfl ?_
  refine r_icmp_eq_t (pc := 890) h (tgt := 895) d_L_law_890 (by decide) (by decide) ?_
  refine r_iload (pc := 895) h 1 d_L_law_895 rfl ?_
  refine r_if_ne_t (pc := 897) h (tgt := 912) d_L_law_897 (by decide) (by decide) ?_
  refine r_goto (pc := 912) h (tgt := 1114) d_L_law_912 (by decide) ?_
  refine Wv.sub [2, 3, 4, 5, 6] rfl ?_
  exact K _ _ _ _ _ _ _ _ _ _ _ _ hT
theorem lx_same (h : Fx p m c s args meth "DiagramBenchLaw" code 7 (wd :: TT) G A) (hl : l.stackTraces = false) (hS : Sc A B L xs s) (hi : i + 5 ≤ L) (hc : cells + 1 ≤ room_1.cells) (hs : slots + 6 ≤ room_1.slots) (hT : tie hd rg) (K : Lq p l e s m args below meth c G A (cells + 1) (slots + 6) Q a o b 1114 (lvL a b o B i)) (hB : ¬ (okR 16 (xs (i + 1)) ∧ okR 16 (xs (i + 2)))) : Wv p l e room_1 s m args below meth c G A 7 cells slots Q (lW G a o b hd wk sp ct ky nm of th rg mk fi fa) 915 (lvL a b o B i) [] := by
  refine r_aload_n (pc := 915) h 3 d_L_law_915 rfl rfl ?_
  refine r_aload_n (pc := 916) h 4 d_L_law_916 rfl rfl ?_
  refine r_iload (pc := 917) h 0 d_L_law_917 rfl ?_
  refine r_iconst (pc := 919) h (v := nI 1) d_L_law_919 (by decide) ?_
  refine r_iadd (pc := 920) h (z := nI (i + 1)) d_L_law_920 (nI_add _ _) ?_
  refine r_sld (pc := 921) h hS (i + 1) (z := xs (i + 1)) d_L_law_921 rfl (by omega) rfl ?_
  refine r_aload_n (pc := 922) h 4 d_L_law_922 rfl rfl ?_
  refine r_iload (pc := 923) h 0 d_L_law_923 rfl ?_
  refine r_iconst (pc := 925) h (v := nI 2) d_L_law_925 (by decide) ?_
  refine r_iadd (pc := 926) h (z := nI (i + 2)) d_L_law_926 (nI_add _ _) ?_
  refine r_sld (pc := 927) h hS (i + 2) (z := xs (i + 2)) d_L_law_927 rfl (by omega) rfl ?_
  refine r_aload_n (pc := 928) h 1 d_L_law_928 rfl rfl ?_
  refine r_invSH (pc := 929) h (st := []) d_L_law_929 ((hx_same hl (xs (i + 1)) (xs (i + 2)) hB).frame (mw G b th rg mk fi fa)) w_300 w_298 w_0 w_299 hd_L_same ⟨(Nat.le_of_ble_eq_true rfl), (Nat.le_of_ble_eq_true rfl)⟩ rfl rfl rfl rfl (Nat.le_of_ble_eq_true rfl) ⟨hc, hs⟩ ?_
  rintro v9 ws9 ⟨ws8, ⟨rfl, rfl⟩, rfl⟩
  refine ⟨rfl, ?_⟩
  show Wv p l e room_1 s m args below meth c G A 7 (cells + 1) (slots + 6) Q (((cw G a hd wk sp ct ky nm) ++ oc G o of) ++ (mw G b th rg mk fi fa)) 932 [(4, .int (nI i)), (3, .ref o), (2, .ref (b 0)), (1, .ref (a 0)), (0, .ref B)] [.int (nI 1)]
  refine r_istore (pc := 932) h (lv' := [(5, .int (nI 1)), (4, .int (nI i)), (3, .ref o), (2, .ref (b 0)), (1, .ref (a 0)), (0, .ref B)]) d_L_law_932 (by decide) rfl ?_
  refine r_aload_n (pc := 934) h 3 d_L_law_934 rfl rfl ?_
  refine r_aload_n (pc := 935) h 5 d_L_law_935 rfl rfl ?_
  refine r_iload (pc := 936) h 1 d_L_law_936 rfl ?_
  refine r_iconst (pc := 938) h (v := nI 1) d_L_law_938 (by decide) ?_
  refine r_iadd (pc := 939) h (z := nI (i + 1)) d_L_law_939 (nI_add _ _) ?_
  refine r_sld (pc := 940) h hS (i + 1) (z := xs (i + 1)) d_L_law_940 rfl (by omega) rfl ?_
  refine r_aload_n (pc := 941) h 5 d_L_law_941 rfl rfl ?_
  refine r_iload (pc := 942) h 1 d_L_law_942 rfl ?_
  refine r_iconst (pc := 944) h (v := nI 2) d_L_law_944 (by decide) ?_
  refine r_iadd (pc := 945) h (z := nI (i + 2)) d_L_law_945 (nI_add _ _) ?_
  refine r_sld (pc := 946) h hS (i + 2) (z := xs (i + 2)) d_L_law_946 rfl (by omega) rfl ?_
  refine Wv.swp ?_
  refine r_invVa (pc := 947) h 0 (st := []) d_L_law_947 ((x_same (xs (i + 1)) (xs (i + 2)) hB).frame ((cw G a hd wk sp ct ky nm) ++ oc G o of)) (r_cV h wc_M_same w_446 w_3 w_447 w_448 hd_M_same ⟨(Nat.le_of_ble_eq_true rfl), (Nat.le_of_ble_eq_true rfl)⟩ rfl rfl) (ap_l mw_0) rfl rfl rfl (Nat.le_of_ble_eq_true rfl) ⟨hc, hs⟩ rfl ?_
  refine r_istore (pc := 950) h (lv' := [(6, .int (bI false)), (5, .int (nI 1)), (4, .int (nI i)), (3, .ref o), (2, .ref (b 0)), (1, .ref (a 0)), (0, .ref B)]) d_L_law_950 (by decide) rfl ?_
  refine r_aload_n (pc := 952) h 4 d_L_law_952 rfl rfl ?_
  refine r_invVa (pc := 953) h 0 (st := []) d_L_law_953 ((c_thrown).frame ((cw G a hd wk sp ct ky nm) ++ oc G o of)) (r_cV h wc_M_thrown w_370 w_3 w_371 w_372 hd_M_thrown ⟨(Nat.le_of_ble_eq_true rfl), (Nat.le_of_ble_eq_true rfl)⟩ rfl rfl) (ap_l mw_0) rfl rfl rfl (Nat.le_of_ble_eq_true rfl) ⟨hc, hs⟩ rfl ?_
  refine Wv.swp ?_
  refine r_iload (pc := 956) h 1 d_L_law_956 rfl ?_
  refine r_icmp_eq_t (pc := 958) h (tgt := 963) d_L_law_958 (by decide) (by decide) ?_
  refine r_iload (pc := 963) h 1 d_L_law_963 rfl ?_
  refine r_if_ne_t (pc := 965) h (tgt := 987) d_L_law_965 (by decide) (by decide) ?_
  refine r_goto (pc := 987) h (tgt := 1114) d_L_law_987 (by decide) ?_
  refine Wv.sub [2, 3, 4, 5, 6] rfl ?_
  exact K _ _ _ _ _ _ _ _ _ _ _ _ hT
theorem lx_parts (h : Fx p m c s args meth "DiagramBenchLaw" code 7 (wd :: TT) G A) (hl : l.stackTraces = false) (hS : Sc A B L xs s) (hi : i + 5 ≤ L) (hc : cells + 1 ≤ room_1.cells) (hs : slots + 6 ≤ room_1.slots) (hT : tie hd rg) (K : Lq p l e s m args below meth c G A (cells + 1) (slots + 6) Q a o b 1114 (lvL a b o B i)) (hB : ¬ (okR 16 (xs (i + 1)))) : Wv p l e room_1 s m args below meth c G A 7 cells slots Q (lW G a o b hd wk sp ct ky nm of th rg mk fi fa) 990 (lvL a b o B i) [] := by
  refine r_aload_n (pc := 990) h 3 d_L_law_990 rfl rfl ?_
  refine r_aload_n (pc := 991) h 4 d_L_law_991 rfl rfl ?_
  refine r_iload (pc := 992) h 0 d_L_law_992 rfl ?_
  refine r_iconst (pc := 994) h (v := nI 1) d_L_law_994 (by decide) ?_
  refine r_iadd (pc := 995) h (z := nI (i + 1)) d_L_law_995 (nI_add _ _) ?_
  refine r_sld (pc := 996) h hS (i + 1) (z := xs (i + 1)) d_L_law_996 rfl (by omega) rfl ?_
  refine r_aload_n (pc := 997) h 1 d_L_law_997 rfl rfl ?_
  refine r_invSH (pc := 998) h (st := []) d_L_law_998 ((hx_parts hl (xs (i + 1)) hB).frame (mw G b th rg mk fi fa)) w_307 w_305 w_0 w_306 hd_L_parts ⟨(Nat.le_of_ble_eq_true rfl), (Nat.le_of_ble_eq_true rfl)⟩ rfl rfl rfl rfl (Nat.le_of_ble_eq_true rfl) ⟨hc, hs⟩ ?_
  rintro v9 ws9 ⟨ws8, ⟨rfl, rfl⟩, rfl⟩
  refine ⟨rfl, ?_⟩
  show Wv p l e room_1 s m args below meth c G A 7 (cells + 1) (slots + 6) Q (((cw G a hd wk sp ct ky nm) ++ oc G o of) ++ (mw G b th rg mk fi fa)) 1001 [(4, .int (nI i)), (3, .ref o), (2, .ref (b 0)), (1, .ref (a 0)), (0, .ref B)] [.int (nI 1)]
  refine r_istore (pc := 1001) h (lv' := [(5, .int (nI 1)), (4, .int (nI i)), (3, .ref o), (2, .ref (b 0)), (1, .ref (a 0)), (0, .ref B)]) d_L_law_1001 (by decide) rfl ?_
  refine r_aload_n (pc := 1003) h 3 d_L_law_1003 rfl rfl ?_
  refine r_aload_n (pc := 1004) h 5 d_L_law_1004 rfl rfl ?_
  refine r_iload (pc := 1005) h 1 d_L_law_1005 rfl ?_
  refine r_iconst (pc := 1007) h (v := nI 1) d_L_law_1007 (by decide) ?_
  refine r_iadd (pc := 1008) h (z := nI (i + 1)) d_L_law_1008 (nI_add _ _) ?_
  refine r_sld (pc := 1009) h hS (i + 1) (z := xs (i + 1)) d_L_law_1009 rfl (by omega) rfl ?_
  refine Wv.swp ?_
  refine r_invVa (pc := 1010) h 0 (st := []) d_L_law_1010 ((x_parts (xs (i + 1)) hB).frame ((cw G a hd wk sp ct ky nm) ++ oc G o of)) (r_cV h wc_M_parts w_450 w_3 w_451 w_452 hd_M_parts ⟨(Nat.le_of_ble_eq_true rfl), (Nat.le_of_ble_eq_true rfl)⟩ rfl rfl) (ap_l mw_0) rfl rfl rfl (Nat.le_of_ble_eq_true rfl) ⟨hc, hs⟩ rfl ?_
  refine r_istore (pc := 1013) h (lv' := [(6, .int (nI 0)), (5, .int (nI 1)), (4, .int (nI i)), (3, .ref o), (2, .ref (b 0)), (1, .ref (a 0)), (0, .ref B)]) d_L_law_1013 (by decide) rfl ?_
  refine r_aload_n (pc := 1015) h 4 d_L_law_1015 rfl rfl ?_
  refine r_invVa (pc := 1016) h 0 (st := []) d_L_law_1016 ((c_thrown).frame ((cw G a hd wk sp ct ky nm) ++ oc G o of)) (r_cV h wc_M_thrown w_370 w_3 w_371 w_372 hd_M_thrown ⟨(Nat.le_of_ble_eq_true rfl), (Nat.le_of_ble_eq_true rfl)⟩ rfl rfl) (ap_l mw_0) rfl rfl rfl (Nat.le_of_ble_eq_true rfl) ⟨hc, hs⟩ rfl ?_
  refine Wv.swp ?_
  refine r_iload (pc := 1019) h 1 d_L_law_1019 rfl ?_
  refine r_icmp_eq_t (pc := 1021) h (tgt := 1026) d_L_law_1021 (by decide) (by decide) ?_
  refine r_iload (pc := 1026) h 1 d_L_law_1026 rfl ?_
  refine r_if_ne_t (pc := 1028) h (tgt := 1043) d_L_law_1028 (by decide) (by decide) ?_
  refine r_goto (pc := 1043) h (tgt := 1114) d_L_law_1043 (by decide) ?_
  refine Wv.sub [2, 3, 4, 5, 6] rfl ?_
  exact K _ _ _ _ _ _ _ _ _ _ _ _ hT
theorem lx_together (h : Fx p m c s args meth "DiagramBenchLaw" code 7 (wd :: TT) G A) (hl : l.stackTraces = false) (hS : Sc A B L xs s) (hi : i + 5 ≤ L) (hc : cells + 1 ≤ room_1.cells) (hs : slots + 6 ≤ room_1.slots) (hT : tie hd rg) (K : Lq p l e s m args below meth c G A (cells + 1) (slots + 6) Q a o b 1114 (lvL a b o B i)) (hB : ¬ (¬ xs (i + 1) < 0 ∧ ¬ xs (i + 2) ≤ xs (i + 1) ∧ xs (i + 2) ≤ nI 16)) : Wv p l e room_1 s m args below meth c G A 7 cells slots Q (lW G a o b hd wk sp ct ky nm of th rg mk fi fa) 1046 (lvL a b o B i) [] := by
  refine r_aload_n (pc := 1046) h 3 d_L_law_1046 rfl rfl ?_
  refine r_aload_n (pc := 1047) h 4 d_L_law_1047 rfl rfl ?_
  refine r_iload (pc := 1048) h 0 d_L_law_1048 rfl ?_
  refine r_iconst (pc := 1050) h (v := nI 1) d_L_law_1050 (by decide) ?_
  refine r_iadd (pc := 1051) h (z := nI (i + 1)) d_L_law_1051 (nI_add _ _) ?_
  refine r_sld (pc := 1052) h hS (i + 1) (z := xs (i + 1)) d_L_law_1052 rfl (by omega) rfl ?_
  refine r_aload_n (pc := 1053) h 4 d_L_law_1053 rfl rfl ?_
  refine r_iload (pc := 1054) h 0 d_L_law_1054 rfl ?_
  refine r_iconst (pc := 1056) h (v := nI 2) d_L_law_1056 (by decide) ?_
  refine r_iadd (pc := 1057) h (z := nI (i + 2)) d_L_law_1057 (nI_add _ _) ?_
  refine r_sld (pc := 1058) h hS (i + 2) (z := xs (i + 2)) d_L_law_1058 rfl (by omega) rfl ?_
  refine r_aload_n (pc := 1059) h 1 d_L_law_1059 rfl rfl ?_
  refine r_invSH (pc := 1060) h (st := []) d_L_law_1060 ((hx_together hl (xs (i + 1)) (xs (i + 2)) hB).frame (mw G b th rg mk fi fa)) w_339 w_337 w_0 w_338 hd_L_together ⟨(Nat.le_of_ble_eq_true rfl), (Nat.le_of_ble_eq_true rfl)⟩ rfl rfl rfl rfl (Nat.le_of_ble_eq_true rfl) ⟨hc, hs⟩ ?_
  rintro v9 ws9 ⟨ws8, ⟨rfl, rfl⟩, rfl⟩
  refine ⟨rfl, ?_⟩
  show Wv p l e room_1 s m args below meth c G A 7 (cells + 1) (slots + 6) Q (((cw G a hd wk sp ct ky nm) ++ oc G o of) ++ (mw G b th rg mk fi fa)) 1063 [(4, .int (nI i)), (3, .ref o), (2, .ref (b 0)), (1, .ref (a 0)), (0, .ref B)] [.int (nI 1)]
  refine r_istore (pc := 1063) h (lv' := [(5, .int (nI 1)), (4, .int (nI i)), (3, .ref o), (2, .ref (b 0)), (1, .ref (a 0)), (0, .ref B)]) d_L_law_1063 (by decide) rfl ?_
  refine r_aload_n (pc := 1065) h 3 d_L_law_1065 rfl rfl ?_
  refine r_aload_n (pc := 1066) h 5 d_L_law_1066 rfl rfl ?_
  refine r_iload (pc := 1067) h 1 d_L_law_1067 rfl ?_
  refine r_iconst (pc := 1069) h (v := nI 1) d_L_law_1069 (by decide) ?_
  refine r_iadd (pc := 1070) h (z := nI (i + 1)) d_L_law_1070 (nI_add _ _) ?_
  refine r_sld (pc := 1071) h hS (i + 1) (z := xs (i + 1)) d_L_law_1071 rfl (by omega) rfl ?_
  refine r_aload_n (pc := 1072) h 5 d_L_law_1072 rfl rfl ?_
  refine r_iload (pc := 1073) h 1 d_L_law_1073 rfl ?_
  refine r_iconst (pc := 1075) h (v := nI 2) d_L_law_1075 (by decide) ?_
  refine r_iadd (pc := 1076) h (z := nI (i + 2)) d_L_law_1076 (nI_add _ _) ?_
  refine r_sld (pc := 1077) h hS (i + 2) (z := xs (i + 2)) d_L_law_1077 rfl (by omega) rfl ?_
  refine Wv.swp ?_
  refine r_invVa (pc := 1078) h 0 (st := []) d_L_law_1078 ((x_together (xs (i + 1)) (xs (i + 2)) (tg_out hB)).frame ((cw G a hd wk sp ct ky nm) ++ oc G o of)) (r_cV h wc_M_together w_466 w_3 w_467 w_468 hd_M_together ⟨(Nat.le_of_ble_eq_true rfl), (Nat.le_of_ble_eq_true rfl)⟩ rfl rfl) (ap_l mw_0) rfl rfl rfl (Nat.le_of_ble_eq_true rfl) ⟨hc, hs⟩ rfl ?_
  refine r_istore (pc := 1081) h (lv' := [(6, .int (nI 0)), (5, .int (nI 1)), (4, .int (nI i)), (3, .ref o), (2, .ref (b 0)), (1, .ref (a 0)), (0, .ref B)]) d_L_law_1081 (by decide) rfl ?_
  refine r_aload_n (pc := 1083) h 4 d_L_law_1083 rfl rfl ?_
  refine r_invVa (pc := 1084) h 0 (st := []) d_L_law_1084 ((c_thrown).frame ((cw G a hd wk sp ct ky nm) ++ oc G o of)) (r_cV h wc_M_thrown w_370 w_3 w_371 w_372 hd_M_thrown ⟨(Nat.le_of_ble_eq_true rfl), (Nat.le_of_ble_eq_true rfl)⟩ rfl rfl) (ap_l mw_0) rfl rfl rfl (Nat.le_of_ble_eq_true rfl) ⟨hc, hs⟩ rfl ?_
  refine Wv.swp ?_
  refine r_iload (pc := 1087) h 1 d_L_law_1087 rfl ?_
  refine r_icmp_eq_t (pc := 1089) h (tgt := 1094) d_L_law_1089 (by decide) (by decide) ?_
  refine r_iload (pc := 1094) h 1 d_L_law_1094 rfl ?_
  refine r_if_ne_t (pc := 1096) h (tgt := 1111) d_L_law_1096 (by decide) (by decide) ?_
  refine r_goto (pc := 1111) h (tgt := 1114) d_L_law_1111 (by decide) ?_
  refine Wv.sub [2, 3, 4, 5, 6] rfl ?_
  exact K _ _ _ _ _ _ _ _ _ _ _ _ hT
theorem lo_variable (h : Fx p m c s args meth "DiagramBenchLaw" code 7 (wd :: TT) G A) (hl : l.stackTraces = false) (hS : Sc A B L xs s) (hi : i + 5 ≤ L) (hc : cells + 1 ≤ room_1.cells) (hs : slots + 6 ≤ room_1.slots) (hT : tie hd rg) (K : Lq p l e s m args below meth c G A (cells + 1) (slots + 6) Q a o b 1114 (lvL a b o B i)) (t : Nat) (ht : t < 16) (e1 : xs (i + 1) = nI t) (v : Nat) (hv : v < 10) (e2 : xs (i + 2) = nI v) : Wv p l e room_1 s m args below meth c G A 7 cells slots Q (lW G a o b hd wk sp ct ky nm of th rg mk fi fa) 112 (lvL a b o B i) [] := by
  refine r_aload_n (pc := 112) h 3 d_L_law_112 rfl rfl ?_
  refine r_aload_n (pc := 113) h 4 d_L_law_113 rfl rfl ?_
  refine r_iload (pc := 114) h 0 d_L_law_114 rfl ?_
  refine r_iconst (pc := 116) h (v := nI 1) d_L_law_116 (by decide) ?_
  refine r_iadd (pc := 117) h (z := nI (i + 1)) d_L_law_117 (nI_add _ _) ?_
  refine r_sld (pc := 118) h hS (i + 1) (z := nI t) d_L_law_118 rfl (by omega) e1 ?_
  refine r_aload_n (pc := 119) h 4 d_L_law_119 rfl rfl ?_
  refine r_iload (pc := 120) h 0 d_L_law_120 rfl ?_
  refine r_iconst (pc := 122) h (v := nI 2) d_L_law_122 (by decide) ?_
  refine r_iadd (pc := 123) h (z := nI (i + 2)) d_L_law_123 (nI_add _ _) ?_
  refine r_sld (pc := 124) h hS (i + 2) (z := nI v) d_L_law_124 rfl (by omega) e2 ?_
  refine r_invSH (pc := 125) h (st := []) d_L_law_125 ((h_variable t ht v hv).frame (mw G b th rg mk fi fa)) w_57 w_55 w_0 w_56 hd_L_variable ⟨(Nat.le_of_ble_eq_true rfl), (Nat.le_of_ble_eq_true rfl)⟩ rfl rfl rfl rfl (Nat.le_of_ble_eq_true rfl) ⟨hc, hs⟩ ?_
  rintro v9 ws9 ⟨ws8, ⟨rfl, F, wk', sp', rfl, hF⟩, rfl⟩
  refine ⟨rfl, ?_⟩
  show Wv p l e room_1 s m args below meth c G A 7 (cells + 1) (slots + 6) Q (((cw G a (va_up hd t F) wk' sp' ct ky nm) ++ oc G o of) ++ (mw G b th rg mk fi fa)) 128 [(4, .int (nI i)), (3, .ref o), (2, .ref (b 0)), (1, .ref (a 0)), (0, .ref B)] [.int (nI 0)]
  refine r_istore (pc := 128) h (lv' := [(5, .int (nI 0)), (4, .int (nI i)), (3, .ref o), (2, .ref (b 0)), (1, .ref (a 0)), (0, .ref B)]) d_L_law_128 (by decide) rfl ?_
  refine r_aload_n (pc := 130) h 3 d_L_law_130 rfl rfl ?_
  refine r_aload_n (pc := 131) h 5 d_L_law_131 rfl rfl ?_
  refine r_iload (pc := 132) h 1 d_L_law_132 rfl ?_
  refine r_iconst (pc := 134) h (v := nI 1) d_L_law_134 (by decide) ?_
  refine r_iadd (pc := 135) h (z := nI (i + 1)) d_L_law_135 (nI_add _ _) ?_
  refine r_sld (pc := 136) h hS (i + 1) (z := nI t) d_L_law_136 rfl (by omega) e1 ?_
  refine r_aload_n (pc := 137) h 5 d_L_law_137 rfl rfl ?_
  refine r_iload (pc := 138) h 1 d_L_law_138 rfl ?_
  refine r_iconst (pc := 140) h (v := nI 2) d_L_law_140 (by decide) ?_
  refine r_iadd (pc := 141) h (z := nI (i + 2)) d_L_law_141 (nI_add _ _) ?_
  refine r_sld (pc := 142) h hS (i + 2) (z := nI v) d_L_law_142 rfl (by omega) e2 ?_
  refine Wv.swp ?_
  refine r_invVv (pc := 143) h 0 (st := []) d_L_law_143 ((m_variable t ht v hv).frame ((cw G a (va_up hd t F) wk' sp' ct ky nm) ++ oc G o of)) (r_cV h wc_M_variable w_374 w_3 w_375 w_376 hd_M_variable ⟨(Nat.le_of_ble_eq_true rfl), (Nat.le_of_ble_eq_true rfl)⟩ rfl rfl) (ap_l mw_0) rfl rfl rfl (Nat.le_of_ble_eq_true rfl) ⟨hc, hs⟩ rfl ?_
  refine r_aload_n (pc := 146) h 3 d_L_law_146 rfl rfl ?_
  refine r_invVa (pc := 147) h 0 (st := []) d_L_law_147 ((c_thrown).frame ((cw G a (va_up hd t F) wk' sp' ct ky nm) ++ oc G o of)) (r_cV h wc_M_thrown w_370 w_3 w_371 w_372 hd_M_thrown ⟨(Nat.le_of_ble_eq_true rfl), (Nat.le_of_ble_eq_true rfl)⟩ rfl rfl) (ap_l mw_0) rfl rfl rfl (Nat.le_of_ble_eq_true rfl) ⟨hc, hs⟩ rfl ?_
  refine Wv.swp ?_
  refine r_iload (pc := 150) h 0 d_L_law_150 rfl ?_
  refine r_icmp_eq_t (pc := 152) h (tgt := 157) d_L_law_152 (by decide) (by decide) ?_
  refine r_goto (pc := 157) h (tgt := 1114) d_L_law_157 (by decide) ?_
  refine Wv.sub [1, 2, 3, 4, 5] rfl ?_
  exact K _ _ _ _ _ _ _ _ _ _ _ _ (tie_up hT (fun x hx => (mix_lt hx).trans ((hF x hx).symm)))
theorem lo_only (h : Fx p m c s args meth "DiagramBenchLaw" code 7 (wd :: TT) G A) (hl : l.stackTraces = false) (hS : Sc A B L xs s) (hi : i + 5 ≤ L) (hc : cells + 1 ≤ room_1.cells) (hs : slots + 6 ≤ room_1.slots) (hT : tie hd rg) (K : Lq p l e s m args below meth c G A (cells + 1) (slots + 6) Q a o b 1114 (lvL a b o B i)) (t : Nat) (ht : t < 16) (e1 : xs (i + 1) = nI t) (y : Nat) (hy : y < 1024) (e2 : xs (i + 2) = nI y) : Wv p l e room_1 s m args below meth c G A 7 cells slots Q (lW G a o b hd wk sp ct ky nm of th rg mk fi fa) 160 (lvL a b o B i) [] := by
  refine r_aload_n (pc := 160) h 3 d_L_law_160 rfl rfl ?_
  refine r_aload_n (pc := 161) h 4 d_L_law_161 rfl rfl ?_
  refine r_iload (pc := 162) h 0 d_L_law_162 rfl ?_
  refine r_iconst (pc := 164) h (v := nI 1) d_L_law_164 (by decide) ?_
  refine r_iadd (pc := 165) h (z := nI (i + 1)) d_L_law_165 (nI_add _ _) ?_
  refine r_sld (pc := 166) h hS (i + 1) (z := nI t) d_L_law_166 rfl (by omega) e1 ?_
  refine r_aload_n (pc := 167) h 4 d_L_law_167 rfl rfl ?_
  refine r_iload (pc := 168) h 0 d_L_law_168 rfl ?_
  refine r_iconst (pc := 170) h (v := nI 2) d_L_law_170 (by decide) ?_
  refine r_iadd (pc := 171) h (z := nI (i + 2)) d_L_law_171 (nI_add _ _) ?_
  refine r_sld (pc := 172) h hS (i + 2) (z := nI y) d_L_law_172 rfl (by omega) e2 ?_
  refine r_invSH (pc := 173) h (st := []) d_L_law_173 ((h_only t ht y hy).frame (mw G b th rg mk fi fa)) w_148 w_146 w_0 w_147 hd_L_only ⟨(Nat.le_of_ble_eq_true rfl), (Nat.le_of_ble_eq_true rfl)⟩ rfl rfl rfl rfl (Nat.le_of_ble_eq_true rfl) ⟨hc, hs⟩ ?_
  rintro v9 ws9 ⟨ws8, ⟨rfl, F, wk', sp', rfl, hF⟩, rfl⟩
  refine ⟨rfl, ?_⟩
  show Wv p l e room_1 s m args below meth c G A 7 (cells + 1) (slots + 6) Q (((cw G a (va_up hd t F) wk' sp' ct ky nm) ++ oc G o of) ++ (mw G b th rg mk fi fa)) 176 [(4, .int (nI i)), (3, .ref o), (2, .ref (b 0)), (1, .ref (a 0)), (0, .ref B)] [.int (nI 0)]
  refine r_istore (pc := 176) h (lv' := [(5, .int (nI 0)), (4, .int (nI i)), (3, .ref o), (2, .ref (b 0)), (1, .ref (a 0)), (0, .ref B)]) d_L_law_176 (by decide) rfl ?_
  refine r_aload_n (pc := 178) h 3 d_L_law_178 rfl rfl ?_
  refine r_aload_n (pc := 179) h 5 d_L_law_179 rfl rfl ?_
  refine r_iload (pc := 180) h 1 d_L_law_180 rfl ?_
  refine r_iconst (pc := 182) h (v := nI 1) d_L_law_182 (by decide) ?_
  refine r_iadd (pc := 183) h (z := nI (i + 1)) d_L_law_183 (nI_add _ _) ?_
  refine r_sld (pc := 184) h hS (i + 1) (z := nI t) d_L_law_184 rfl (by omega) e1 ?_
  refine r_aload_n (pc := 185) h 5 d_L_law_185 rfl rfl ?_
  refine r_iload (pc := 186) h 1 d_L_law_186 rfl ?_
  refine r_iconst (pc := 188) h (v := nI 2) d_L_law_188 (by decide) ?_
  refine r_iadd (pc := 189) h (z := nI (i + 2)) d_L_law_189 (nI_add _ _) ?_
  refine r_sld (pc := 190) h hS (i + 2) (z := nI y) d_L_law_190 rfl (by omega) e2 ?_
  refine Wv.swp ?_
  refine r_invVv (pc := 191) h 0 (st := []) d_L_law_191 ((m_only t ht y hy).frame ((cw G a (va_up hd t F) wk' sp' ct ky nm) ++ oc G o of)) (r_cV h wc_M_only w_388 w_3 w_389 w_390 hd_M_only ⟨(Nat.le_of_ble_eq_true rfl), (Nat.le_of_ble_eq_true rfl)⟩ rfl rfl) (ap_l mw_0) rfl rfl rfl (Nat.le_of_ble_eq_true rfl) ⟨hc, hs⟩ rfl ?_
  refine r_aload_n (pc := 194) h 3 d_L_law_194 rfl rfl ?_
  refine r_invVa (pc := 195) h 0 (st := []) d_L_law_195 ((c_thrown).frame ((cw G a (va_up hd t F) wk' sp' ct ky nm) ++ oc G o of)) (r_cV h wc_M_thrown w_370 w_3 w_371 w_372 hd_M_thrown ⟨(Nat.le_of_ble_eq_true rfl), (Nat.le_of_ble_eq_true rfl)⟩ rfl rfl) (ap_l mw_0) rfl rfl rfl (Nat.le_of_ble_eq_true rfl) ⟨hc, hs⟩ rfl ?_
  refine Wv.swp ?_
  refine r_iload (pc := 198) h 0 d_L_law_198 rfl ?_
  refine r_icmp_eq_t (pc := 200) h (tgt := 205) d_L_law_200 (by decide) (by decide) ?_
  refine r_goto (pc := 205) h (tgt := 1114) d_L_law_205 (by decide) ?_
  refine Wv.sub [1, 2, 3, 4, 5] rfl ?_
  exact K _ _ _ _ _ _ _ _ _ _ _ _ (tie_up hT (fun x hx => (mix_lt hx).trans ((hF x hx).symm)))
theorem lo_join (h : Fx p m c s args meth "DiagramBenchLaw" code 7 (wd :: TT) G A) (hl : l.stackTraces = false) (hS : Sc A B L xs s) (hi : i + 5 ≤ L) (hc : cells + 1 ≤ room_1.cells) (hs : slots + 6 ≤ room_1.slots) (hT : tie hd rg) (K : Lq p l e s m args below meth c G A (cells + 1) (slots + 6) Q a o b 1114 (lvL a b o B i)) (t : Nat) (ht : t < 16) (e1 : xs (i + 1) = nI t) (k : Nat) (hk : k < 5) (e2 : xs (i + 2) = nI k) (r1 : Nat) (hr1 : r1 < 16) (e3 : xs (i + 3) = nI r1) (r2 : Nat) (hr2 : r2 < 16) (e4 : xs (i + 4) = nI r2) : Wv p l e room_1 s m args below meth c G A 7 cells slots Q (lW G a o b hd wk sp ct ky nm of th rg mk fi fa) 208 (lvL a b o B i) [] := by
  refine r_aload_n (pc := 208) h 3 d_L_law_208 rfl rfl ?_
  refine r_aload_n (pc := 209) h 4 d_L_law_209 rfl rfl ?_
  refine r_iload (pc := 210) h 0 d_L_law_210 rfl ?_
  refine r_iconst (pc := 212) h (v := nI 1) d_L_law_212 (by decide) ?_
  refine r_iadd (pc := 213) h (z := nI (i + 1)) d_L_law_213 (nI_add _ _) ?_
  refine r_sld (pc := 214) h hS (i + 1) (z := nI t) d_L_law_214 rfl (by omega) e1 ?_
  refine r_aload_n (pc := 215) h 4 d_L_law_215 rfl rfl ?_
  refine r_iload (pc := 216) h 0 d_L_law_216 rfl ?_
  refine r_iconst (pc := 218) h (v := nI 2) d_L_law_218 (by decide) ?_
  refine r_iadd (pc := 219) h (z := nI (i + 2)) d_L_law_219 (nI_add _ _) ?_
  refine r_sld (pc := 220) h hS (i + 2) (z := nI k) d_L_law_220 rfl (by omega) e2 ?_
  refine r_aload_n (pc := 221) h 4 d_L_law_221 rfl rfl ?_
  refine r_iload (pc := 222) h 0 d_L_law_222 rfl ?_
  refine r_iconst (pc := 224) h (v := nI 3) d_L_law_224 (by decide) ?_
  refine r_iadd (pc := 225) h (z := nI (i + 3)) d_L_law_225 (nI_add _ _) ?_
  refine r_sld (pc := 226) h hS (i + 3) (z := nI r1) d_L_law_226 rfl (by omega) e3 ?_
  refine r_aload_n (pc := 227) h 4 d_L_law_227 rfl rfl ?_
  refine r_iload (pc := 228) h 0 d_L_law_228 rfl ?_
  refine r_iconst (pc := 230) h (v := nI 4) d_L_law_230 (by decide) ?_
  refine r_iadd (pc := 231) h (z := nI (i + 4)) d_L_law_231 (nI_add _ _) ?_
  refine r_sld (pc := 232) h hS (i + 4) (z := nI r2) d_L_law_232 rfl (by omega) e4 ?_
  refine r_invSH (pc := 233) h (st := []) d_L_law_233 ((h_join t ht k r1 r2 hk hr1 hr2).frame (mw G b th rg mk fi fa)) w_162 w_160 w_0 w_161 hd_L_join ⟨(Nat.le_of_ble_eq_true rfl), (Nat.le_of_ble_eq_true rfl)⟩ rfl rfl rfl rfl (Nat.le_of_ble_eq_true rfl) ⟨hc, hs⟩ ?_
  rintro v9 ws9 ⟨ws8, ⟨rfl, F, wk', sp', rfl, hF⟩, rfl⟩
  refine ⟨rfl, ?_⟩
  show Wv p l e room_1 s m args below meth c G A 7 (cells + 1) (slots + 6) Q (((cw G a (va_up hd t F) wk' sp' ct ky nm) ++ oc G o of) ++ (mw G b th rg mk fi fa)) 236 [(4, .int (nI i)), (3, .ref o), (2, .ref (b 0)), (1, .ref (a 0)), (0, .ref B)] [.int (nI 0)]
  refine r_istore (pc := 236) h (lv' := [(5, .int (nI 0)), (4, .int (nI i)), (3, .ref o), (2, .ref (b 0)), (1, .ref (a 0)), (0, .ref B)]) d_L_law_236 (by decide) rfl ?_
  refine r_aload_n (pc := 238) h 3 d_L_law_238 rfl rfl ?_
  refine r_aload_n (pc := 239) h 5 d_L_law_239 rfl rfl ?_
  refine r_iload (pc := 240) h 1 d_L_law_240 rfl ?_
  refine r_iconst (pc := 242) h (v := nI 1) d_L_law_242 (by decide) ?_
  refine r_iadd (pc := 243) h (z := nI (i + 1)) d_L_law_243 (nI_add _ _) ?_
  refine r_sld (pc := 244) h hS (i + 1) (z := nI t) d_L_law_244 rfl (by omega) e1 ?_
  refine r_aload_n (pc := 245) h 5 d_L_law_245 rfl rfl ?_
  refine r_iload (pc := 246) h 1 d_L_law_246 rfl ?_
  refine r_iconst (pc := 248) h (v := nI 2) d_L_law_248 (by decide) ?_
  refine r_iadd (pc := 249) h (z := nI (i + 2)) d_L_law_249 (nI_add _ _) ?_
  refine r_sld (pc := 250) h hS (i + 2) (z := nI k) d_L_law_250 rfl (by omega) e2 ?_
  refine r_aload_n (pc := 251) h 5 d_L_law_251 rfl rfl ?_
  refine r_iload (pc := 252) h 1 d_L_law_252 rfl ?_
  refine r_iconst (pc := 254) h (v := nI 3) d_L_law_254 (by decide) ?_
  refine r_iadd (pc := 255) h (z := nI (i + 3)) d_L_law_255 (nI_add _ _) ?_
  refine r_sld (pc := 256) h hS (i + 3) (z := nI r1) d_L_law_256 rfl (by omega) e3 ?_
  refine r_aload_n (pc := 257) h 5 d_L_law_257 rfl rfl ?_
  refine r_iload (pc := 258) h 1 d_L_law_258 rfl ?_
  refine r_iconst (pc := 260) h (v := nI 4) d_L_law_260 (by decide) ?_
  refine r_iadd (pc := 261) h (z := nI (i + 4)) d_L_law_261 (nI_add _ _) ?_
  refine r_sld (pc := 262) h hS (i + 4) (z := nI r2) d_L_law_262 rfl (by omega) e4 ?_
  refine Wv.swp ?_
  refine r_invVv (pc := 263) h 0 (st := []) d_L_law_263 ((m_join t ht k r1 r2 hk hr1 hr2).frame ((cw G a (va_up hd t F) wk' sp' ct ky nm) ++ oc G o of)) (r_cV h wc_M_join w_395 w_3 w_396 w_397 hd_M_join ⟨(Nat.le_of_ble_eq_true rfl), (Nat.le_of_ble_eq_true rfl)⟩ rfl rfl) (ap_l mw_0) rfl rfl rfl (Nat.le_of_ble_eq_true rfl) ⟨hc, hs⟩ rfl ?_
  refine r_aload_n (pc := 266) h 3 d_L_law_266 rfl rfl ?_
  refine r_invVa (pc := 267) h 0 (st := []) d_L_law_267 ((c_thrown).frame ((cw G a (va_up hd t F) wk' sp' ct ky nm) ++ oc G o of)) (r_cV h wc_M_thrown w_370 w_3 w_371 w_372 hd_M_thrown ⟨(Nat.le_of_ble_eq_true rfl), (Nat.le_of_ble_eq_true rfl)⟩ rfl rfl) (ap_l mw_0) rfl rfl rfl (Nat.le_of_ble_eq_true rfl) ⟨hc, hs⟩ rfl ?_
  refine Wv.swp ?_
  refine r_iload (pc := 270) h 0 d_L_law_270 rfl ?_
  refine r_icmp_eq_t (pc := 272) h (tgt := 277) d_L_law_272 (by decide) (by decide) ?_
  refine r_goto (pc := 277) h (tgt := 1114) d_L_law_277 (by decide) ?_
  refine Wv.sub [1, 2, 3, 4, 5] rfl ?_
  exact K _ _ _ _ _ _ _ _ _ _ _ _ (tie_up hT (fun x hx => ((mix_lt hx).trans (mix_lt hx)).trans (by show jB k (rg r1 x) (rg r2 x) = _; rw [hT r1 hr1 x hx, hT r2 hr2 x hx, hF x hx])))
theorem lo_choose (h : Fx p m c s args meth "DiagramBenchLaw" code 7 (wd :: TT) G A) (hl : l.stackTraces = false) (hS : Sc A B L xs s) (hi : i + 5 ≤ L) (hc : cells + 1 ≤ room_1.cells) (hs : slots + 6 ≤ room_1.slots) (hT : tie hd rg) (K : Lq p l e s m args below meth c G A (cells + 1) (slots + 6) Q a o b 1114 (lvL a b o B i)) (t : Nat) (ht : t < 16) (e1 : xs (i + 1) = nI t) (r1 : Nat) (hr1 : r1 < 16) (e2 : xs (i + 2) = nI r1) (r2 : Nat) (hr2 : r2 < 16) (e3 : xs (i + 3) = nI r2) (r3 : Nat) (hr3 : r3 < 16) (e4 : xs (i + 4) = nI r3) : Wv p l e room_1 s m args below meth c G A 7 cells slots Q (lW G a o b hd wk sp ct ky nm of th rg mk fi fa) 280 (lvL a b o B i) [] := by
  refine r_aload_n (pc := 280) h 3 d_L_law_280 rfl rfl ?_
  refine r_aload_n (pc := 281) h 4 d_L_law_281 rfl rfl ?_
  refine r_iload (pc := 282) h 0 d_L_law_282 rfl ?_
  refine r_iconst (pc := 284) h (v := nI 1) d_L_law_284 (by decide) ?_
  refine r_iadd (pc := 285) h (z := nI (i + 1)) d_L_law_285 (nI_add _ _) ?_
  refine r_sld (pc := 286) h hS (i + 1) (z := nI t) d_L_law_286 rfl (by omega) e1 ?_
  refine r_aload_n (pc := 287) h 4 d_L_law_287 rfl rfl ?_
  refine r_iload (pc := 288) h 0 d_L_law_288 rfl ?_
  refine r_iconst (pc := 290) h (v := nI 2) d_L_law_290 (by decide) ?_
  refine r_iadd (pc := 291) h (z := nI (i + 2)) d_L_law_291 (nI_add _ _) ?_
  refine r_sld (pc := 292) h hS (i + 2) (z := nI r1) d_L_law_292 rfl (by omega) e2 ?_
  refine r_aload_n (pc := 293) h 4 d_L_law_293 rfl rfl ?_
  refine r_iload (pc := 294) h 0 d_L_law_294 rfl ?_
  refine r_iconst (pc := 296) h (v := nI 3) d_L_law_296 (by decide) ?_
  refine r_iadd (pc := 297) h (z := nI (i + 3)) d_L_law_297 (nI_add _ _) ?_
  refine r_sld (pc := 298) h hS (i + 3) (z := nI r2) d_L_law_298 rfl (by omega) e3 ?_
  refine r_aload_n (pc := 299) h 4 d_L_law_299 rfl rfl ?_
  refine r_iload (pc := 300) h 0 d_L_law_300 rfl ?_
  refine r_iconst (pc := 302) h (v := nI 4) d_L_law_302 (by decide) ?_
  refine r_iadd (pc := 303) h (z := nI (i + 4)) d_L_law_303 (nI_add _ _) ?_
  refine r_sld (pc := 304) h hS (i + 4) (z := nI r3) d_L_law_304 rfl (by omega) e4 ?_
  refine r_invSH (pc := 305) h (st := []) d_L_law_305 ((h_choose t ht r1 r2 r3 hr1 hr2 hr3).frame (mw G b th rg mk fi fa)) w_176 w_174 w_0 w_175 hd_L_choose ⟨(Nat.le_of_ble_eq_true rfl), (Nat.le_of_ble_eq_true rfl)⟩ rfl rfl rfl rfl (Nat.le_of_ble_eq_true rfl) ⟨hc, hs⟩ ?_
  rintro v9 ws9 ⟨ws8, ⟨rfl, F, wk', sp', rfl, hF⟩, rfl⟩
  refine ⟨rfl, ?_⟩
  show Wv p l e room_1 s m args below meth c G A 7 (cells + 1) (slots + 6) Q (((cw G a (va_up hd t F) wk' sp' ct ky nm) ++ oc G o of) ++ (mw G b th rg mk fi fa)) 308 [(4, .int (nI i)), (3, .ref o), (2, .ref (b 0)), (1, .ref (a 0)), (0, .ref B)] [.int (nI 0)]
  refine r_istore (pc := 308) h (lv' := [(5, .int (nI 0)), (4, .int (nI i)), (3, .ref o), (2, .ref (b 0)), (1, .ref (a 0)), (0, .ref B)]) d_L_law_308 (by decide) rfl ?_
  refine r_aload_n (pc := 310) h 3 d_L_law_310 rfl rfl ?_
  refine r_aload_n (pc := 311) h 5 d_L_law_311 rfl rfl ?_
  refine r_iload (pc := 312) h 1 d_L_law_312 rfl ?_
  refine r_iconst (pc := 314) h (v := nI 1) d_L_law_314 (by decide) ?_
  refine r_iadd (pc := 315) h (z := nI (i + 1)) d_L_law_315 (nI_add _ _) ?_
  refine r_sld (pc := 316) h hS (i + 1) (z := nI t) d_L_law_316 rfl (by omega) e1 ?_
  refine r_aload_n (pc := 317) h 5 d_L_law_317 rfl rfl ?_
  refine r_iload (pc := 318) h 1 d_L_law_318 rfl ?_
  refine r_iconst (pc := 320) h (v := nI 2) d_L_law_320 (by decide) ?_
  refine r_iadd (pc := 321) h (z := nI (i + 2)) d_L_law_321 (nI_add _ _) ?_
  refine r_sld (pc := 322) h hS (i + 2) (z := nI r1) d_L_law_322 rfl (by omega) e2 ?_
  refine r_aload_n (pc := 323) h 5 d_L_law_323 rfl rfl ?_
  refine r_iload (pc := 324) h 1 d_L_law_324 rfl ?_
  refine r_iconst (pc := 326) h (v := nI 3) d_L_law_326 (by decide) ?_
  refine r_iadd (pc := 327) h (z := nI (i + 3)) d_L_law_327 (nI_add _ _) ?_
  refine r_sld (pc := 328) h hS (i + 3) (z := nI r2) d_L_law_328 rfl (by omega) e3 ?_
  refine r_aload_n (pc := 329) h 5 d_L_law_329 rfl rfl ?_
  refine r_iload (pc := 330) h 1 d_L_law_330 rfl ?_
  refine r_iconst (pc := 332) h (v := nI 4) d_L_law_332 (by decide) ?_
  refine r_iadd (pc := 333) h (z := nI (i + 4)) d_L_law_333 (nI_add _ _) ?_
  refine r_sld (pc := 334) h hS (i + 4) (z := nI r3) d_L_law_334 rfl (by omega) e4 ?_
  refine Wv.swp ?_
  refine r_invVv (pc := 335) h 0 (st := []) d_L_law_335 ((m_choose t ht r1 r2 r3 hr1 hr2 hr3).frame ((cw G a (va_up hd t F) wk' sp' ct ky nm) ++ oc G o of)) (r_cV h wc_M_choose w_404 w_3 w_405 w_406 hd_M_choose ⟨(Nat.le_of_ble_eq_true rfl), (Nat.le_of_ble_eq_true rfl)⟩ rfl rfl) (ap_l mw_0) rfl rfl rfl (Nat.le_of_ble_eq_true rfl) ⟨hc, hs⟩ rfl ?_
  refine r_aload_n (pc := 338) h 3 d_L_law_338 rfl rfl ?_
  refine r_invVa (pc := 339) h 0 (st := []) d_L_law_339 ((c_thrown).frame ((cw G a (va_up hd t F) wk' sp' ct ky nm) ++ oc G o of)) (r_cV h wc_M_thrown w_370 w_3 w_371 w_372 hd_M_thrown ⟨(Nat.le_of_ble_eq_true rfl), (Nat.le_of_ble_eq_true rfl)⟩ rfl rfl) (ap_l mw_0) rfl rfl rfl (Nat.le_of_ble_eq_true rfl) ⟨hc, hs⟩ rfl ?_
  refine Wv.swp ?_
  refine r_iload (pc := 342) h 0 d_L_law_342 rfl ?_
  refine r_icmp_eq_t (pc := 344) h (tgt := 349) d_L_law_344 (by decide) (by decide) ?_
  refine r_goto (pc := 349) h (tgt := 1114) d_L_law_349 (by decide) ?_
  refine Wv.sub [1, 2, 3, 4, 5] rfl ?_
  exact K _ _ _ _ _ _ _ _ _ _ _ _ (tie_up hT (fun x hx => ((mix_lt hx).trans (mix_lt hx)).trans (by show (if rg r1 x = true then rg r2 x else rg r3 x) = _; rw [hT r1 hr1 x hx, hT r2 hr2 x hx, hT r3 hr3 x hx, hF x hx])))
theorem lo_cut_false (h : Fx p m c s args meth "DiagramBenchLaw" code 7 (wd :: TT) G A) (hl : l.stackTraces = false) (hS : Sc A B L xs s) (hi : i + 5 ≤ L) (hc : cells + 1 ≤ room_1.cells) (hs : slots + 6 ≤ room_1.slots) (hT : tie hd rg) (K : Lq p l e s m args below meth c G A (cells + 1) (slots + 6) Q a o b 1114 (lvL a b o B i)) (t : Nat) (ht : t < 16) (e1 : xs (i + 1) = nI t) (r1 : Nat) (hr1 : r1 < 16) (e2 : xs (i + 2) = nI r1) (v : Nat) (hv : v < 10) (e3 : xs (i + 3) = nI v) (hz : xs (i + 4) = 0) : Wv p l e room_1 s m args below meth c G A 7 cells slots Q (lW G a o b hd wk sp ct ky nm of th rg mk fi fa) 352 (lvL a b o B i) [] := by
  refine r_aload_n (pc := 352) h 3 d_L_law_352 rfl rfl ?_
  refine r_aload_n (pc := 353) h 4 d_L_law_353 rfl rfl ?_
  refine r_iload (pc := 354) h 0 d_L_law_354 rfl ?_
  refine r_iconst (pc := 356) h (v := nI 1) d_L_law_356 (by decide) ?_
  refine r_iadd (pc := 357) h (z := nI (i + 1)) d_L_law_357 (nI_add _ _) ?_
  refine r_sld (pc := 358) h hS (i + 1) (z := nI t) d_L_law_358 rfl (by omega) e1 ?_
  refine r_aload_n (pc := 359) h 4 d_L_law_359 rfl rfl ?_
  refine r_iload (pc := 360) h 0 d_L_law_360 rfl ?_
  refine r_iconst (pc := 362) h (v := nI 2) d_L_law_362 (by decide) ?_
  refine r_iadd (pc := 363) h (z := nI (i + 2)) d_L_law_363 (nI_add _ _) ?_
  refine r_sld (pc := 364) h hS (i + 2) (z := nI r1) d_L_law_364 rfl (by omega) e2 ?_
  refine r_aload_n (pc := 365) h 4 d_L_law_365 rfl rfl ?_
  refine r_iload (pc := 366) h 0 d_L_law_366 rfl ?_
  refine r_iconst (pc := 368) h (v := nI 3) d_L_law_368 (by decide) ?_
  refine r_iadd (pc := 369) h (z := nI (i + 3)) d_L_law_369 (nI_add _ _) ?_
  refine r_sld (pc := 370) h hS (i + 3) (z := nI v) d_L_law_370 rfl (by omega) e3 ?_
  refine r_aload_n (pc := 371) h 4 d_L_law_371 rfl rfl ?_
  refine r_iload (pc := 372) h 0 d_L_law_372 rfl ?_
  refine r_iconst (pc := 374) h (v := nI 4) d_L_law_374 (by decide) ?_
  refine r_iadd (pc := 375) h (z := nI (i + 4)) d_L_law_375 (nI_add _ _) ?_
  refine r_sld (pc := 376) h hS (i + 4) (z := xs (i + 4)) d_L_law_376 rfl (by omega) rfl ?_
  refine r_if_eq_t (pc := 377) h (tgt := 384) d_L_law_377 (by decide) hz ?_
  refine r_iconst (pc := 384) h (v := bI false) d_L_law_384 (by decide) ?_
  refine r_invSH (pc := 385) h (st := []) d_L_law_385 ((h_cut t ht r1 v false hr1 hv).frame (mw G b th rg mk fi fa)) w_186 w_184 w_0 w_185 hd_L_cut ⟨(Nat.le_of_ble_eq_true rfl), (Nat.le_of_ble_eq_true rfl)⟩ rfl rfl rfl rfl (Nat.le_of_ble_eq_true rfl) ⟨hc, hs⟩ ?_
  rintro v9 ws9 ⟨ws8, ⟨rfl, F, wk', sp', rfl, hF⟩, rfl⟩
  refine ⟨rfl, ?_⟩
  show Wv p l e room_1 s m args below meth c G A 7 (cells + 1) (slots + 6) Q (((cw G a (va_up hd t F) wk' sp' ct ky nm) ++ oc G o of) ++ (mw G b th rg mk fi fa)) 388 [(4, .int (nI i)), (3, .ref o), (2, .ref (b 0)), (1, .ref (a 0)), (0, .ref B)] [.int (nI 0)]
  refine r_istore (pc := 388) h (lv' := [(5, .int (nI 0)), (4, .int (nI i)), (3, .ref o), (2, .ref (b 0)), (1, .ref (a 0)), (0, .ref B)]) d_L_law_388 (by decide) rfl ?_
  refine r_aload_n (pc := 390) h 3 d_L_law_390 rfl rfl ?_
  refine r_aload_n (pc := 391) h 5 d_L_law_391 rfl rfl ?_
  refine r_iload (pc := 392) h 1 d_L_law_392 rfl ?_
  refine r_iconst (pc := 394) h (v := nI 1) d_L_law_394 (by decide) ?_
  refine r_iadd (pc := 395) h (z := nI (i + 1)) d_L_law_395 (nI_add _ _) ?_
  refine r_sld (pc := 396) h hS (i + 1) (z := nI t) d_L_law_396 rfl (by omega) e1 ?_
  refine r_aload_n (pc := 397) h 5 d_L_law_397 rfl rfl ?_
  refine r_iload (pc := 398) h 1 d_L_law_398 rfl ?_
  refine r_iconst (pc := 400) h (v := nI 2) d_L_law_400 (by decide) ?_
  refine r_iadd (pc := 401) h (z := nI (i + 2)) d_L_law_401 (nI_add _ _) ?_
  refine r_sld (pc := 402) h hS (i + 2) (z := nI r1) d_L_law_402 rfl (by omega) e2 ?_
  refine r_aload_n (pc := 403) h 5 d_L_law_403 rfl rfl ?_
  refine r_iload (pc := 404) h 1 d_L_law_404 rfl ?_
  refine r_iconst (pc := 406) h (v := nI 3) d_L_law_406 (by decide) ?_
  refine r_iadd (pc := 407) h (z := nI (i + 3)) d_L_law_407 (nI_add _ _) ?_
  refine r_sld (pc := 408) h hS (i + 3) (z := nI v) d_L_law_408 rfl (by omega) e3 ?_
  refine r_aload_n (pc := 409) h 5 d_L_law_409 rfl rfl ?_
  refine r_iload (pc := 410) h 1 d_L_law_410 rfl ?_
  refine r_iconst (pc := 412) h (v := nI 4) d_L_law_412 (by decide) ?_
  refine r_iadd (pc := 413) h (z := nI (i + 4)) d_L_law_413 (nI_add _ _) ?_
  refine r_sld (pc := 414) h hS (i + 4) (z := xs (i + 4)) d_L_law_414 rfl (by omega) rfl ?_
  refine r_if_eq_t (pc := 415) h (tgt := 422) d_L_law_415 (by decide) hz ?_
  refine r_iconst (pc := 422) h (v := bI false) d_L_law_422 (by decide) ?_
  refine Wv.swp ?_
  refine r_invVv (pc := 423) h 0 (st := []) d_L_law_423 ((m_cut_false t ht r1 v hr1 hv).frame ((cw G a (va_up hd t F) wk' sp' ct ky nm) ++ oc G o of)) (r_cV h wc_M_cut w_408 w_3 w_409 w_410 hd_M_cut ⟨(Nat.le_of_ble_eq_true rfl), (Nat.le_of_ble_eq_true rfl)⟩ rfl rfl) (ap_l mw_0) rfl rfl rfl (Nat.le_of_ble_eq_true rfl) ⟨hc, hs⟩ rfl ?_
  refine r_aload_n (pc := 426) h 3 d_L_law_426 rfl rfl ?_
  refine r_invVa (pc := 427) h 0 (st := []) d_L_law_427 ((c_thrown).frame ((cw G a (va_up hd t F) wk' sp' ct ky nm) ++ oc G o of)) (r_cV h wc_M_thrown w_370 w_3 w_371 w_372 hd_M_thrown ⟨(Nat.le_of_ble_eq_true rfl), (Nat.le_of_ble_eq_true rfl)⟩ rfl rfl) (ap_l mw_0) rfl rfl rfl (Nat.le_of_ble_eq_true rfl) ⟨hc, hs⟩ rfl ?_
  refine Wv.swp ?_
  refine r_iload (pc := 430) h 0 d_L_law_430 rfl ?_
  refine r_icmp_eq_t (pc := 432) h (tgt := 437) d_L_law_432 (by decide) (by decide) ?_
  refine r_goto (pc := 437) h (tgt := 1114) d_L_law_437 (by decide) ?_
  refine Wv.sub [1, 2, 3, 4, 5] rfl ?_
  exact K _ _ _ _ _ _ _ _ _ _ _ _ (tie_up hT (fun x hx => ((mix_lt hx).trans (mix_lt hx)).trans ((hT r1 hr1 _ (sb_lt hx hv)).trans (hF x hx).symm)))
theorem lo_cut_true (h : Fx p m c s args meth "DiagramBenchLaw" code 7 (wd :: TT) G A) (hl : l.stackTraces = false) (hS : Sc A B L xs s) (hi : i + 5 ≤ L) (hc : cells + 1 ≤ room_1.cells) (hs : slots + 6 ≤ room_1.slots) (hT : tie hd rg) (K : Lq p l e s m args below meth c G A (cells + 1) (slots + 6) Q a o b 1114 (lvL a b o B i)) (t : Nat) (ht : t < 16) (e1 : xs (i + 1) = nI t) (r1 : Nat) (hr1 : r1 < 16) (e2 : xs (i + 2) = nI r1) (v : Nat) (hv : v < 10) (e3 : xs (i + 3) = nI v) (hz : xs (i + 4) ≠ 0) : Wv p l e room_1 s m args below meth c G A 7 cells slots Q (lW G a o b hd wk sp ct ky nm of th rg mk fi fa) 352 (lvL a b o B i) [] := by
  refine r_aload_n (pc := 352) h 3 d_L_law_352 rfl rfl ?_
  refine r_aload_n (pc := 353) h 4 d_L_law_353 rfl rfl ?_
  refine r_iload (pc := 354) h 0 d_L_law_354 rfl ?_
  refine r_iconst (pc := 356) h (v := nI 1) d_L_law_356 (by decide) ?_
  refine r_iadd (pc := 357) h (z := nI (i + 1)) d_L_law_357 (nI_add _ _) ?_
  refine r_sld (pc := 358) h hS (i + 1) (z := nI t) d_L_law_358 rfl (by omega) e1 ?_
  refine r_aload_n (pc := 359) h 4 d_L_law_359 rfl rfl ?_
  refine r_iload (pc := 360) h 0 d_L_law_360 rfl ?_
  refine r_iconst (pc := 362) h (v := nI 2) d_L_law_362 (by decide) ?_
  refine r_iadd (pc := 363) h (z := nI (i + 2)) d_L_law_363 (nI_add _ _) ?_
  refine r_sld (pc := 364) h hS (i + 2) (z := nI r1) d_L_law_364 rfl (by omega) e2 ?_
  refine r_aload_n (pc := 365) h 4 d_L_law_365 rfl rfl ?_
  refine r_iload (pc := 366) h 0 d_L_law_366 rfl ?_
  refine r_iconst (pc := 368) h (v := nI 3) d_L_law_368 (by decide) ?_
  refine r_iadd (pc := 369) h (z := nI (i + 3)) d_L_law_369 (nI_add _ _) ?_
  refine r_sld (pc := 370) h hS (i + 3) (z := nI v) d_L_law_370 rfl (by omega) e3 ?_
  refine r_aload_n (pc := 371) h 4 d_L_law_371 rfl rfl ?_
  refine r_iload (pc := 372) h 0 d_L_law_372 rfl ?_
  refine r_iconst (pc := 374) h (v := nI 4) d_L_law_374 (by decide) ?_
  refine r_iadd (pc := 375) h (z := nI (i + 4)) d_L_law_375 (nI_add _ _) ?_
  refine r_sld (pc := 376) h hS (i + 4) (z := xs (i + 4)) d_L_law_376 rfl (by omega) rfl ?_
  refine r_if_eq_f (pc := 377) h (tgt := 384) d_L_law_377 (by decide) hz ?_
  refine r_iconst (pc := 380) h (v := bI true) d_L_law_380 (by decide) ?_
  refine r_goto (pc := 381) h (tgt := 385) d_L_law_381 (by decide) ?_
  refine r_invSH (pc := 385) h (st := []) d_L_law_385 ((h_cut t ht r1 v true hr1 hv).frame (mw G b th rg mk fi fa)) w_186 w_184 w_0 w_185 hd_L_cut ⟨(Nat.le_of_ble_eq_true rfl), (Nat.le_of_ble_eq_true rfl)⟩ rfl rfl rfl rfl (Nat.le_of_ble_eq_true rfl) ⟨hc, hs⟩ ?_
  rintro v9 ws9 ⟨ws8, ⟨rfl, F, wk', sp', rfl, hF⟩, rfl⟩
  refine ⟨rfl, ?_⟩
  show Wv p l e room_1 s m args below meth c G A 7 (cells + 1) (slots + 6) Q (((cw G a (va_up hd t F) wk' sp' ct ky nm) ++ oc G o of) ++ (mw G b th rg mk fi fa)) 388 [(4, .int (nI i)), (3, .ref o), (2, .ref (b 0)), (1, .ref (a 0)), (0, .ref B)] [.int (nI 0)]
  refine r_istore (pc := 388) h (lv' := [(5, .int (nI 0)), (4, .int (nI i)), (3, .ref o), (2, .ref (b 0)), (1, .ref (a 0)), (0, .ref B)]) d_L_law_388 (by decide) rfl ?_
  refine r_aload_n (pc := 390) h 3 d_L_law_390 rfl rfl ?_
  refine r_aload_n (pc := 391) h 5 d_L_law_391 rfl rfl ?_
  refine r_iload (pc := 392) h 1 d_L_law_392 rfl ?_
  refine r_iconst (pc := 394) h (v := nI 1) d_L_law_394 (by decide) ?_
  refine r_iadd (pc := 395) h (z := nI (i + 1)) d_L_law_395 (nI_add _ _) ?_
  refine r_sld (pc := 396) h hS (i + 1) (z := nI t) d_L_law_396 rfl (by omega) e1 ?_
  refine r_aload_n (pc := 397) h 5 d_L_law_397 rfl rfl ?_
  refine r_iload (pc := 398) h 1 d_L_law_398 rfl ?_
  refine r_iconst (pc := 400) h (v := nI 2) d_L_law_400 (by decide) ?_
  refine r_iadd (pc := 401) h (z := nI (i + 2)) d_L_law_401 (nI_add _ _) ?_
  refine r_sld (pc := 402) h hS (i + 2) (z := nI r1) d_L_law_402 rfl (by omega) e2 ?_
  refine r_aload_n (pc := 403) h 5 d_L_law_403 rfl rfl ?_
  refine r_iload (pc := 404) h 1 d_L_law_404 rfl ?_
  refine r_iconst (pc := 406) h (v := nI 3) d_L_law_406 (by decide) ?_
  refine r_iadd (pc := 407) h (z := nI (i + 3)) d_L_law_407 (nI_add _ _) ?_
  refine r_sld (pc := 408) h hS (i + 3) (z := nI v) d_L_law_408 rfl (by omega) e3 ?_
  refine r_aload_n (pc := 409) h 5 d_L_law_409 rfl rfl ?_
  refine r_iload (pc := 410) h 1 d_L_law_410 rfl ?_
  refine r_iconst (pc := 412) h (v := nI 4) d_L_law_412 (by decide) ?_
  refine r_iadd (pc := 413) h (z := nI (i + 4)) d_L_law_413 (nI_add _ _) ?_
  refine r_sld (pc := 414) h hS (i + 4) (z := xs (i + 4)) d_L_law_414 rfl (by omega) rfl ?_
  refine r_if_eq_f (pc := 415) h (tgt := 422) d_L_law_415 (by decide) hz ?_
  refine r_iconst (pc := 418) h (v := bI true) d_L_law_418 (by decide) ?_
  refine r_goto (pc := 419) h (tgt := 423) d_L_law_419 (by decide) ?_
  refine Wv.swp ?_
  refine r_invVv (pc := 423) h 0 (st := []) d_L_law_423 ((m_cut_true t ht r1 v hr1 hv).frame ((cw G a (va_up hd t F) wk' sp' ct ky nm) ++ oc G o of)) (r_cV h wc_M_cut w_408 w_3 w_409 w_410 hd_M_cut ⟨(Nat.le_of_ble_eq_true rfl), (Nat.le_of_ble_eq_true rfl)⟩ rfl rfl) (ap_l mw_0) rfl rfl rfl (Nat.le_of_ble_eq_true rfl) ⟨hc, hs⟩ rfl ?_
  refine r_aload_n (pc := 426) h 3 d_L_law_426 rfl rfl ?_
  refine r_invVa (pc := 427) h 0 (st := []) d_L_law_427 ((c_thrown).frame ((cw G a (va_up hd t F) wk' sp' ct ky nm) ++ oc G o of)) (r_cV h wc_M_thrown w_370 w_3 w_371 w_372 hd_M_thrown ⟨(Nat.le_of_ble_eq_true rfl), (Nat.le_of_ble_eq_true rfl)⟩ rfl rfl) (ap_l mw_0) rfl rfl rfl (Nat.le_of_ble_eq_true rfl) ⟨hc, hs⟩ rfl ?_
  refine Wv.swp ?_
  refine r_iload (pc := 430) h 0 d_L_law_430 rfl ?_
  refine r_icmp_eq_t (pc := 432) h (tgt := 437) d_L_law_432 (by decide) (by decide) ?_
  refine r_goto (pc := 437) h (tgt := 1114) d_L_law_437 (by decide) ?_
  refine Wv.sub [1, 2, 3, 4, 5] rfl ?_
  exact K _ _ _ _ _ _ _ _ _ _ _ _ (tie_up hT (fun x hx => ((mix_lt hx).trans (mix_lt hx)).trans ((hT r1 hr1 _ (sb_lt hx hv)).trans (hF x hx).symm)))
theorem lo_put (h : Fx p m c s args meth "DiagramBenchLaw" code 7 (wd :: TT) G A) (hl : l.stackTraces = false) (hS : Sc A B L xs s) (hi : i + 5 ≤ L) (hc : cells + 1 ≤ room_1.cells) (hs : slots + 6 ≤ room_1.slots) (hT : tie hd rg) (K : Lq p l e s m args below meth c G A (cells + 1) (slots + 6) Q a o b 1114 (lvL a b o B i)) (t : Nat) (ht : t < 16) (e1 : xs (i + 1) = nI t) (r1 : Nat) (hr1 : r1 < 16) (e2 : xs (i + 2) = nI r1) (v : Nat) (hv : v < 10) (e3 : xs (i + 3) = nI v) (r2 : Nat) (hr2 : r2 < 16) (e4 : xs (i + 4) = nI r2) : Wv p l e room_1 s m args below meth c G A 7 cells slots Q (lW G a o b hd wk sp ct ky nm of th rg mk fi fa) 440 (lvL a b o B i) [] := by
  refine r_aload_n (pc := 440) h 3 d_L_law_440 rfl rfl ?_
  refine r_aload_n (pc := 441) h 4 d_L_law_441 rfl rfl ?_
  refine r_iload (pc := 442) h 0 d_L_law_442 rfl ?_
  refine r_iconst (pc := 444) h (v := nI 1) d_L_law_444 (by decide) ?_
  refine r_iadd (pc := 445) h (z := nI (i + 1)) d_L_law_445 (nI_add _ _) ?_
  refine r_sld (pc := 446) h hS (i + 1) (z := nI t) d_L_law_446 rfl (by omega) e1 ?_
  refine r_aload_n (pc := 447) h 4 d_L_law_447 rfl rfl ?_
  refine r_iload (pc := 448) h 0 d_L_law_448 rfl ?_
  refine r_iconst (pc := 450) h (v := nI 2) d_L_law_450 (by decide) ?_
  refine r_iadd (pc := 451) h (z := nI (i + 2)) d_L_law_451 (nI_add _ _) ?_
  refine r_sld (pc := 452) h hS (i + 2) (z := nI r1) d_L_law_452 rfl (by omega) e2 ?_
  refine r_aload_n (pc := 453) h 4 d_L_law_453 rfl rfl ?_
  refine r_iload (pc := 454) h 0 d_L_law_454 rfl ?_
  refine r_iconst (pc := 456) h (v := nI 3) d_L_law_456 (by decide) ?_
  refine r_iadd (pc := 457) h (z := nI (i + 3)) d_L_law_457 (nI_add _ _) ?_
  refine r_sld (pc := 458) h hS (i + 3) (z := nI v) d_L_law_458 rfl (by omega) e3 ?_
  refine r_aload_n (pc := 459) h 4 d_L_law_459 rfl rfl ?_
  refine r_iload (pc := 460) h 0 d_L_law_460 rfl ?_
  refine r_iconst (pc := 462) h (v := nI 4) d_L_law_462 (by decide) ?_
  refine r_iadd (pc := 463) h (z := nI (i + 4)) d_L_law_463 (nI_add _ _) ?_
  refine r_sld (pc := 464) h hS (i + 4) (z := nI r2) d_L_law_464 rfl (by omega) e4 ?_
  refine r_invSH (pc := 465) h (st := []) d_L_law_465 ((h_put t ht r1 v r2 hr1 hv hr2).frame (mw G b th rg mk fi fa)) w_206 w_204 w_0 w_205 hd_L_put ⟨(Nat.le_of_ble_eq_true rfl), (Nat.le_of_ble_eq_true rfl)⟩ rfl rfl rfl rfl (Nat.le_of_ble_eq_true rfl) ⟨hc, hs⟩ ?_
  rintro v9 ws9 ⟨ws8, ⟨rfl, F, wk', sp', rfl, hF⟩, rfl⟩
  refine ⟨rfl, ?_⟩
  show Wv p l e room_1 s m args below meth c G A 7 (cells + 1) (slots + 6) Q (((cw G a (va_up hd t F) wk' sp' ct ky nm) ++ oc G o of) ++ (mw G b th rg mk fi fa)) 468 [(4, .int (nI i)), (3, .ref o), (2, .ref (b 0)), (1, .ref (a 0)), (0, .ref B)] [.int (nI 0)]
  refine r_istore (pc := 468) h (lv' := [(5, .int (nI 0)), (4, .int (nI i)), (3, .ref o), (2, .ref (b 0)), (1, .ref (a 0)), (0, .ref B)]) d_L_law_468 (by decide) rfl ?_
  refine r_aload_n (pc := 470) h 3 d_L_law_470 rfl rfl ?_
  refine r_aload_n (pc := 471) h 5 d_L_law_471 rfl rfl ?_
  refine r_iload (pc := 472) h 1 d_L_law_472 rfl ?_
  refine r_iconst (pc := 474) h (v := nI 1) d_L_law_474 (by decide) ?_
  refine r_iadd (pc := 475) h (z := nI (i + 1)) d_L_law_475 (nI_add _ _) ?_
  refine r_sld (pc := 476) h hS (i + 1) (z := nI t) d_L_law_476 rfl (by omega) e1 ?_
  refine r_aload_n (pc := 477) h 5 d_L_law_477 rfl rfl ?_
  refine r_iload (pc := 478) h 1 d_L_law_478 rfl ?_
  refine r_iconst (pc := 480) h (v := nI 2) d_L_law_480 (by decide) ?_
  refine r_iadd (pc := 481) h (z := nI (i + 2)) d_L_law_481 (nI_add _ _) ?_
  refine r_sld (pc := 482) h hS (i + 2) (z := nI r1) d_L_law_482 rfl (by omega) e2 ?_
  refine r_aload_n (pc := 483) h 5 d_L_law_483 rfl rfl ?_
  refine r_iload (pc := 484) h 1 d_L_law_484 rfl ?_
  refine r_iconst (pc := 486) h (v := nI 3) d_L_law_486 (by decide) ?_
  refine r_iadd (pc := 487) h (z := nI (i + 3)) d_L_law_487 (nI_add _ _) ?_
  refine r_sld (pc := 488) h hS (i + 3) (z := nI v) d_L_law_488 rfl (by omega) e3 ?_
  refine r_aload_n (pc := 489) h 5 d_L_law_489 rfl rfl ?_
  refine r_iload (pc := 490) h 1 d_L_law_490 rfl ?_
  refine r_iconst (pc := 492) h (v := nI 4) d_L_law_492 (by decide) ?_
  refine r_iadd (pc := 493) h (z := nI (i + 4)) d_L_law_493 (nI_add _ _) ?_
  refine r_sld (pc := 494) h hS (i + 4) (z := nI r2) d_L_law_494 rfl (by omega) e4 ?_
  refine Wv.swp ?_
  refine r_invVv (pc := 495) h 0 (st := []) d_L_law_495 ((m_put t ht r1 v r2 hr1 hv hr2).frame ((cw G a (va_up hd t F) wk' sp' ct ky nm) ++ oc G o of)) (r_cV h wc_M_put w_412 w_3 w_413 w_414 hd_M_put ⟨(Nat.le_of_ble_eq_true rfl), (Nat.le_of_ble_eq_true rfl)⟩ rfl rfl) (ap_l mw_0) rfl rfl rfl (Nat.le_of_ble_eq_true rfl) ⟨hc, hs⟩ rfl ?_
  refine r_aload_n (pc := 498) h 3 d_L_law_498 rfl rfl ?_
  refine r_invVa (pc := 499) h 0 (st := []) d_L_law_499 ((c_thrown).frame ((cw G a (va_up hd t F) wk' sp' ct ky nm) ++ oc G o of)) (r_cV h wc_M_thrown w_370 w_3 w_371 w_372 hd_M_thrown ⟨(Nat.le_of_ble_eq_true rfl), (Nat.le_of_ble_eq_true rfl)⟩ rfl rfl) (ap_l mw_0) rfl rfl rfl (Nat.le_of_ble_eq_true rfl) ⟨hc, hs⟩ rfl ?_
  refine Wv.swp ?_
  refine r_iload (pc := 502) h 0 d_L_law_502 rfl ?_
  refine r_icmp_eq_t (pc := 504) h (tgt := 509) d_L_law_504 (by decide) (by decide) ?_
  refine r_goto (pc := 509) h (tgt := 1114) d_L_law_509 (by decide) ?_
  refine Wv.sub [1, 2, 3, 4, 5] rfl ?_
  exact K _ _ _ _ _ _ _ _ _ _ _ _ (tie_up hT (fun x hx => ((mix_lt hx).trans (mix_lt hx)).trans (by show rg r1 (sb x v (rg r2 x)) = _; rw [hT r2 hr2 x hx, hT r1 hr1 _ (sb_lt hx hv), hF x hx])))
theorem lo_bound_false (h : Fx p m c s args meth "DiagramBenchLaw" code 7 (wd :: TT) G A) (hl : l.stackTraces = false) (hS : Sc A B L xs s) (hi : i + 5 ≤ L) (hc : cells + 1 ≤ room_1.cells) (hs : slots + 6 ≤ room_1.slots) (hT : tie hd rg) (K : Lq p l e s m args below meth c G A (cells + 1) (slots + 6) Q a o b 1114 (lvL a b o B i)) (t : Nat) (ht : t < 16) (e1 : xs (i + 1) = nI t) (r1 : Nat) (hr1 : r1 < 16) (e2 : xs (i + 2) = nI r1) (S : Nat) (hS9 : S < 1024) (e3 : xs (i + 3) = nI S) (hz : xs (i + 4) = 0) : Wv p l e room_1 s m args below meth c G A 7 cells slots Q (lW G a o b hd wk sp ct ky nm of th rg mk fi fa) 512 (lvL a b o B i) [] := by
  refine r_aload_n (pc := 512) h 3 d_L_law_512 rfl rfl ?_
  refine r_aload_n (pc := 513) h 4 d_L_law_513 rfl rfl ?_
  refine r_iload (pc := 514) h 0 d_L_law_514 rfl ?_
  refine r_iconst (pc := 516) h (v := nI 1) d_L_law_516 (by decide) ?_
  refine r_iadd (pc := 517) h (z := nI (i + 1)) d_L_law_517 (nI_add _ _) ?_
  refine r_sld (pc := 518) h hS (i + 1) (z := nI t) d_L_law_518 rfl (by omega) e1 ?_
  refine r_aload_n (pc := 519) h 4 d_L_law_519 rfl rfl ?_
  refine r_iload (pc := 520) h 0 d_L_law_520 rfl ?_
  refine r_iconst (pc := 522) h (v := nI 2) d_L_law_522 (by decide) ?_
  refine r_iadd (pc := 523) h (z := nI (i + 2)) d_L_law_523 (nI_add _ _) ?_
  refine r_sld (pc := 524) h hS (i + 2) (z := nI r1) d_L_law_524 rfl (by omega) e2 ?_
  refine r_aload_n (pc := 525) h 4 d_L_law_525 rfl rfl ?_
  refine r_iload (pc := 526) h 0 d_L_law_526 rfl ?_
  refine r_iconst (pc := 528) h (v := nI 3) d_L_law_528 (by decide) ?_
  refine r_iadd (pc := 529) h (z := nI (i + 3)) d_L_law_529 (nI_add _ _) ?_
  refine r_sld (pc := 530) h hS (i + 3) (z := nI S) d_L_law_530 rfl (by omega) e3 ?_
  refine r_aload_n (pc := 531) h 4 d_L_law_531 rfl rfl ?_
  refine r_iload (pc := 532) h 0 d_L_law_532 rfl ?_
  refine r_iconst (pc := 534) h (v := nI 4) d_L_law_534 (by decide) ?_
  refine r_iadd (pc := 535) h (z := nI (i + 4)) d_L_law_535 (nI_add _ _) ?_
  refine r_sld (pc := 536) h hS (i + 4) (z := xs (i + 4)) d_L_law_536 rfl (by omega) rfl ?_
  refine r_if_eq_t (pc := 537) h (tgt := 544) d_L_law_537 (by decide) hz ?_
  refine r_iconst (pc := 544) h (v := bI false) d_L_law_544 (by decide) ?_
  refine r_invSH (pc := 545) h (st := []) d_L_law_545 ((h_bound t ht r1 S false hr1 hS9).frame (mw G b th rg mk fi fa)) w_213 w_211 w_0 w_212 hd_L_bound ⟨(Nat.le_of_ble_eq_true rfl), (Nat.le_of_ble_eq_true rfl)⟩ rfl rfl rfl rfl (Nat.le_of_ble_eq_true rfl) ⟨hc, hs⟩ ?_
  rintro v9 ws9 ⟨ws8, ⟨rfl, F, wk', sp', rfl, hF⟩, rfl⟩
  refine ⟨rfl, ?_⟩
  show Wv p l e room_1 s m args below meth c G A 7 (cells + 1) (slots + 6) Q (((cw G a (va_up hd t F) wk' sp' ct ky nm) ++ oc G o of) ++ (mw G b th rg mk fi fa)) 548 [(4, .int (nI i)), (3, .ref o), (2, .ref (b 0)), (1, .ref (a 0)), (0, .ref B)] [.int (nI 0)]
  refine r_istore (pc := 548) h (lv' := [(5, .int (nI 0)), (4, .int (nI i)), (3, .ref o), (2, .ref (b 0)), (1, .ref (a 0)), (0, .ref B)]) d_L_law_548 (by decide) rfl ?_
  refine r_aload_n (pc := 550) h 3 d_L_law_550 rfl rfl ?_
  refine r_aload_n (pc := 551) h 5 d_L_law_551 rfl rfl ?_
  refine r_iload (pc := 552) h 1 d_L_law_552 rfl ?_
  refine r_iconst (pc := 554) h (v := nI 1) d_L_law_554 (by decide) ?_
  refine r_iadd (pc := 555) h (z := nI (i + 1)) d_L_law_555 (nI_add _ _) ?_
  refine r_sld (pc := 556) h hS (i + 1) (z := nI t) d_L_law_556 rfl (by omega) e1 ?_
  refine r_aload_n (pc := 557) h 5 d_L_law_557 rfl rfl ?_
  refine r_iload (pc := 558) h 1 d_L_law_558 rfl ?_
  refine r_iconst (pc := 560) h (v := nI 2) d_L_law_560 (by decide) ?_
  refine r_iadd (pc := 561) h (z := nI (i + 2)) d_L_law_561 (nI_add _ _) ?_
  refine r_sld (pc := 562) h hS (i + 2) (z := nI r1) d_L_law_562 rfl (by omega) e2 ?_
  refine r_aload_n (pc := 563) h 5 d_L_law_563 rfl rfl ?_
  refine r_iload (pc := 564) h 1 d_L_law_564 rfl ?_
  refine r_iconst (pc := 566) h (v := nI 3) d_L_law_566 (by decide) ?_
  refine r_iadd (pc := 567) h (z := nI (i + 3)) d_L_law_567 (nI_add _ _) ?_
  refine r_sld (pc := 568) h hS (i + 3) (z := nI S) d_L_law_568 rfl (by omega) e3 ?_
  refine r_aload_n (pc := 569) h 5 d_L_law_569 rfl rfl ?_
  refine r_iload (pc := 570) h 1 d_L_law_570 rfl ?_
  refine r_iconst (pc := 572) h (v := nI 4) d_L_law_572 (by decide) ?_
  refine r_iadd (pc := 573) h (z := nI (i + 4)) d_L_law_573 (nI_add _ _) ?_
  refine r_sld (pc := 574) h hS (i + 4) (z := xs (i + 4)) d_L_law_574 rfl (by omega) rfl ?_
  refine r_if_eq_t (pc := 575) h (tgt := 582) d_L_law_575 (by decide) hz ?_
  refine r_iconst (pc := 582) h (v := bI false) d_L_law_582 (by decide) ?_
  refine Wv.swp ?_
  refine r_invVv (pc := 583) h 0 (st := []) d_L_law_583 ((m_bound_false t ht r1 S hr1 hS9).frame ((cw G a (va_up hd t F) wk' sp' ct ky nm) ++ oc G o of)) (r_cV h wc_M_bound w_416 w_3 w_417 w_418 hd_M_bound ⟨(Nat.le_of_ble_eq_true rfl), (Nat.le_of_ble_eq_true rfl)⟩ rfl rfl) (ap_l mw_0) rfl rfl rfl (Nat.le_of_ble_eq_true rfl) ⟨hc, hs⟩ rfl ?_
  refine r_aload_n (pc := 586) h 3 d_L_law_586 rfl rfl ?_
  refine r_invVa (pc := 587) h 0 (st := []) d_L_law_587 ((c_thrown).frame ((cw G a (va_up hd t F) wk' sp' ct ky nm) ++ oc G o of)) (r_cV h wc_M_thrown w_370 w_3 w_371 w_372 hd_M_thrown ⟨(Nat.le_of_ble_eq_true rfl), (Nat.le_of_ble_eq_true rfl)⟩ rfl rfl) (ap_l mw_0) rfl rfl rfl (Nat.le_of_ble_eq_true rfl) ⟨hc, hs⟩ rfl ?_
  refine Wv.swp ?_
  refine r_iload (pc := 590) h 0 d_L_law_590 rfl ?_
  refine r_icmp_eq_t (pc := 592) h (tgt := 597) d_L_law_592 (by decide) (by decide) ?_
  refine r_goto (pc := 597) h (tgt := 1114) d_L_law_597 (by decide) ?_
  refine Wv.sub [1, 2, 3, 4, 5] rfl ?_
  exact K _ _ _ _ _ _ _ _ _ _ _ _ (tie_up hT (fun x hx => ((mix_lt hx).trans (mix_lt hx)).trans (((bsI_bd hx).trans (bd_ext (fun y hy => hT r1 hr1 y hy) 10 (Nat.le_refl _) x hx)).trans (hF x hx).symm)))
theorem lo_bound_true (h : Fx p m c s args meth "DiagramBenchLaw" code 7 (wd :: TT) G A) (hl : l.stackTraces = false) (hS : Sc A B L xs s) (hi : i + 5 ≤ L) (hc : cells + 1 ≤ room_1.cells) (hs : slots + 6 ≤ room_1.slots) (hT : tie hd rg) (K : Lq p l e s m args below meth c G A (cells + 1) (slots + 6) Q a o b 1114 (lvL a b o B i)) (t : Nat) (ht : t < 16) (e1 : xs (i + 1) = nI t) (r1 : Nat) (hr1 : r1 < 16) (e2 : xs (i + 2) = nI r1) (S : Nat) (hS9 : S < 1024) (e3 : xs (i + 3) = nI S) (hz : xs (i + 4) ≠ 0) : Wv p l e room_1 s m args below meth c G A 7 cells slots Q (lW G a o b hd wk sp ct ky nm of th rg mk fi fa) 512 (lvL a b o B i) [] := by
  refine r_aload_n (pc := 512) h 3 d_L_law_512 rfl rfl ?_
  refine r_aload_n (pc := 513) h 4 d_L_law_513 rfl rfl ?_
  refine r_iload (pc := 514) h 0 d_L_law_514 rfl ?_
  refine r_iconst (pc := 516) h (v := nI 1) d_L_law_516 (by decide) ?_
  refine r_iadd (pc := 517) h (z := nI (i + 1)) d_L_law_517 (nI_add _ _) ?_
  refine r_sld (pc := 518) h hS (i + 1) (z := nI t) d_L_law_518 rfl (by omega) e1 ?_
  refine r_aload_n (pc := 519) h 4 d_L_law_519 rfl rfl ?_
  refine r_iload (pc := 520) h 0 d_L_law_520 rfl ?_
  refine r_iconst (pc := 522) h (v := nI 2) d_L_law_522 (by decide) ?_
  refine r_iadd (pc := 523) h (z := nI (i + 2)) d_L_law_523 (nI_add _ _) ?_
  refine r_sld (pc := 524) h hS (i + 2) (z := nI r1) d_L_law_524 rfl (by omega) e2 ?_
  refine r_aload_n (pc := 525) h 4 d_L_law_525 rfl rfl ?_
  refine r_iload (pc := 526) h 0 d_L_law_526 rfl ?_
  refine r_iconst (pc := 528) h (v := nI 3) d_L_law_528 (by decide) ?_
  refine r_iadd (pc := 529) h (z := nI (i + 3)) d_L_law_529 (nI_add _ _) ?_
  refine r_sld (pc := 530) h hS (i + 3) (z := nI S) d_L_law_530 rfl (by omega) e3 ?_
  refine r_aload_n (pc := 531) h 4 d_L_law_531 rfl rfl ?_
  refine r_iload (pc := 532) h 0 d_L_law_532 rfl ?_
  refine r_iconst (pc := 534) h (v := nI 4) d_L_law_534 (by decide) ?_
  refine r_iadd (pc := 535) h (z := nI (i + 4)) d_L_law_535 (nI_add _ _) ?_
  refine r_sld (pc := 536) h hS (i + 4) (z := xs (i + 4)) d_L_law_536 rfl (by omega) rfl ?_
  refine r_if_eq_f (pc := 537) h (tgt := 544) d_L_law_537 (by decide) hz ?_
  refine r_iconst (pc := 540) h (v := bI true) d_L_law_540 (by decide) ?_
  refine r_goto (pc := 541) h (tgt := 545) d_L_law_541 (by decide) ?_
  refine r_invSH (pc := 545) h (st := []) d_L_law_545 ((h_bound t ht r1 S true hr1 hS9).frame (mw G b th rg mk fi fa)) w_213 w_211 w_0 w_212 hd_L_bound ⟨(Nat.le_of_ble_eq_true rfl), (Nat.le_of_ble_eq_true rfl)⟩ rfl rfl rfl rfl (Nat.le_of_ble_eq_true rfl) ⟨hc, hs⟩ ?_
  rintro v9 ws9 ⟨ws8, ⟨rfl, F, wk', sp', rfl, hF⟩, rfl⟩
  refine ⟨rfl, ?_⟩
  show Wv p l e room_1 s m args below meth c G A 7 (cells + 1) (slots + 6) Q (((cw G a (va_up hd t F) wk' sp' ct ky nm) ++ oc G o of) ++ (mw G b th rg mk fi fa)) 548 [(4, .int (nI i)), (3, .ref o), (2, .ref (b 0)), (1, .ref (a 0)), (0, .ref B)] [.int (nI 0)]
  refine r_istore (pc := 548) h (lv' := [(5, .int (nI 0)), (4, .int (nI i)), (3, .ref o), (2, .ref (b 0)), (1, .ref (a 0)), (0, .ref B)]) d_L_law_548 (by decide) rfl ?_
  refine r_aload_n (pc := 550) h 3 d_L_law_550 rfl rfl ?_
  refine r_aload_n (pc := 551) h 5 d_L_law_551 rfl rfl ?_
  refine r_iload (pc := 552) h 1 d_L_law_552 rfl ?_
  refine r_iconst (pc := 554) h (v := nI 1) d_L_law_554 (by decide) ?_
  refine r_iadd (pc := 555) h (z := nI (i + 1)) d_L_law_555 (nI_add _ _) ?_
  refine r_sld (pc := 556) h hS (i + 1) (z := nI t) d_L_law_556 rfl (by omega) e1 ?_
  refine r_aload_n (pc := 557) h 5 d_L_law_557 rfl rfl ?_
  refine r_iload (pc := 558) h 1 d_L_law_558 rfl ?_
  refine r_iconst (pc := 560) h (v := nI 2) d_L_law_560 (by decide) ?_
  refine r_iadd (pc := 561) h (z := nI (i + 2)) d_L_law_561 (nI_add _ _) ?_
  refine r_sld (pc := 562) h hS (i + 2) (z := nI r1) d_L_law_562 rfl (by omega) e2 ?_
  refine r_aload_n (pc := 563) h 5 d_L_law_563 rfl rfl ?_
  refine r_iload (pc := 564) h 1 d_L_law_564 rfl ?_
  refine r_iconst (pc := 566) h (v := nI 3) d_L_law_566 (by decide) ?_
  refine r_iadd (pc := 567) h (z := nI (i + 3)) d_L_law_567 (nI_add _ _) ?_
  refine r_sld (pc := 568) h hS (i + 3) (z := nI S) d_L_law_568 rfl (by omega) e3 ?_
  refine r_aload_n (pc := 569) h 5 d_L_law_569 rfl rfl ?_
  refine r_iload (pc := 570) h 1 d_L_law_570 rfl ?_
  refine r_iconst (pc := 572) h (v := nI 4) d_L_law_572 (by decide) ?_
  refine r_iadd (pc := 573) h (z := nI (i + 4)) d_L_law_573 (nI_add _ _) ?_
  refine r_sld (pc := 574) h hS (i + 4) (z := xs (i + 4)) d_L_law_574 rfl (by omega) rfl ?_
  refine r_if_eq_f (pc := 575) h (tgt := 582) d_L_law_575 (by decide) hz ?_
  refine r_iconst (pc := 578) h (v := bI true) d_L_law_578 (by decide) ?_
  refine r_goto (pc := 579) h (tgt := 583) d_L_law_579 (by decide) ?_
  refine Wv.swp ?_
  refine r_invVv (pc := 583) h 0 (st := []) d_L_law_583 ((m_bound_true t ht r1 S hr1 hS9).frame ((cw G a (va_up hd t F) wk' sp' ct ky nm) ++ oc G o of)) (r_cV h wc_M_bound w_416 w_3 w_417 w_418 hd_M_bound ⟨(Nat.le_of_ble_eq_true rfl), (Nat.le_of_ble_eq_true rfl)⟩ rfl rfl) (ap_l mw_0) rfl rfl rfl (Nat.le_of_ble_eq_true rfl) ⟨hc, hs⟩ rfl ?_
  refine r_aload_n (pc := 586) h 3 d_L_law_586 rfl rfl ?_
  refine r_invVa (pc := 587) h 0 (st := []) d_L_law_587 ((c_thrown).frame ((cw G a (va_up hd t F) wk' sp' ct ky nm) ++ oc G o of)) (r_cV h wc_M_thrown w_370 w_3 w_371 w_372 hd_M_thrown ⟨(Nat.le_of_ble_eq_true rfl), (Nat.le_of_ble_eq_true rfl)⟩ rfl rfl) (ap_l mw_0) rfl rfl rfl (Nat.le_of_ble_eq_true rfl) ⟨hc, hs⟩ rfl ?_
  refine Wv.swp ?_
  refine r_iload (pc := 590) h 0 d_L_law_590 rfl ?_
  refine r_icmp_eq_t (pc := 592) h (tgt := 597) d_L_law_592 (by decide) (by decide) ?_
  refine r_goto (pc := 597) h (tgt := 1114) d_L_law_597 (by decide) ?_
  refine Wv.sub [1, 2, 3, 4, 5] rfl ?_
  exact K _ _ _ _ _ _ _ _ _ _ _ _ (tie_up hT (fun x hx => ((mix_lt hx).trans (mix_lt hx)).trans (((bsI_bd hx).trans (bd_ext (fun y hy => hT r1 hr1 y hy) 10 (Nat.le_refl _) x hx)).trans (hF x hx).symm)))
theorem lo_swap (h : Fx p m c s args meth "DiagramBenchLaw" code 7 (wd :: TT) G A) (hl : l.stackTraces = false) (hS : Sc A B L xs s) (hi : i + 5 ≤ L) (hc : cells + 1 ≤ room_1.cells) (hs : slots + 6 ≤ room_1.slots) (hT : tie hd rg) (K : Lq p l e s m args below meth c G A (cells + 1) (slots + 6) Q a o b 1114 (lvL a b o B i)) (t : Nat) (ht : t < 16) (e1 : xs (i + 1) = nI t) (r1 : Nat) (hr1 : r1 < 16) (e2 : xs (i + 2) = nI r1) (v : Nat) (hv : v < 10) (e3 : xs (i + 3) = nI v) (w : Nat) (hw : w < 10) (e4 : xs (i + 4) = nI w) : Wv p l e room_1 s m args below meth c G A 7 cells slots Q (lW G a o b hd wk sp ct ky nm of th rg mk fi fa) 600 (lvL a b o B i) [] := by
  refine r_aload_n (pc := 600) h 3 d_L_law_600 rfl rfl ?_
  refine r_aload_n (pc := 601) h 4 d_L_law_601 rfl rfl ?_
  refine r_iload (pc := 602) h 0 d_L_law_602 rfl ?_
  refine r_iconst (pc := 604) h (v := nI 1) d_L_law_604 (by decide) ?_
  refine r_iadd (pc := 605) h (z := nI (i + 1)) d_L_law_605 (nI_add _ _) ?_
  refine r_sld (pc := 606) h hS (i + 1) (z := nI t) d_L_law_606 rfl (by omega) e1 ?_
  refine r_aload_n (pc := 607) h 4 d_L_law_607 rfl rfl ?_
  refine r_iload (pc := 608) h 0 d_L_law_608 rfl ?_
  refine r_iconst (pc := 610) h (v := nI 2) d_L_law_610 (by decide) ?_
  refine r_iadd (pc := 611) h (z := nI (i + 2)) d_L_law_611 (nI_add _ _) ?_
  refine r_sld (pc := 612) h hS (i + 2) (z := nI r1) d_L_law_612 rfl (by omega) e2 ?_
  refine r_aload_n (pc := 613) h 4 d_L_law_613 rfl rfl ?_
  refine r_iload (pc := 614) h 0 d_L_law_614 rfl ?_
  refine r_iconst (pc := 616) h (v := nI 3) d_L_law_616 (by decide) ?_
  refine r_iadd (pc := 617) h (z := nI (i + 3)) d_L_law_617 (nI_add _ _) ?_
  refine r_sld (pc := 618) h hS (i + 3) (z := nI v) d_L_law_618 rfl (by omega) e3 ?_
  refine r_aload_n (pc := 619) h 4 d_L_law_619 rfl rfl ?_
  refine r_iload (pc := 620) h 0 d_L_law_620 rfl ?_
  refine r_iconst (pc := 622) h (v := nI 4) d_L_law_622 (by decide) ?_
  refine r_iadd (pc := 623) h (z := nI (i + 4)) d_L_law_623 (nI_add _ _) ?_
  refine r_sld (pc := 624) h hS (i + 4) (z := nI w) d_L_law_624 rfl (by omega) e4 ?_
  refine r_invSH (pc := 625) h (st := []) d_L_law_625 ((h_swap t ht r1 v w hr1 hv hw).frame (mw G b th rg mk fi fa)) w_228 w_226 w_0 w_227 hd_L_swap ⟨(Nat.le_of_ble_eq_true rfl), (Nat.le_of_ble_eq_true rfl)⟩ rfl rfl rfl rfl (Nat.le_of_ble_eq_true rfl) ⟨hc, hs⟩ ?_
  rintro v9 ws9 ⟨ws8, ⟨rfl, F, wk', sp', rfl, hF⟩, rfl⟩
  refine ⟨rfl, ?_⟩
  show Wv p l e room_1 s m args below meth c G A 7 (cells + 1) (slots + 6) Q (((cw G a (va_up hd t F) wk' sp' ct ky nm) ++ oc G o of) ++ (mw G b th rg mk fi fa)) 628 [(4, .int (nI i)), (3, .ref o), (2, .ref (b 0)), (1, .ref (a 0)), (0, .ref B)] [.int (nI 0)]
  refine r_istore (pc := 628) h (lv' := [(5, .int (nI 0)), (4, .int (nI i)), (3, .ref o), (2, .ref (b 0)), (1, .ref (a 0)), (0, .ref B)]) d_L_law_628 (by decide) rfl ?_
  refine r_aload_n (pc := 630) h 3 d_L_law_630 rfl rfl ?_
  refine r_aload_n (pc := 631) h 5 d_L_law_631 rfl rfl ?_
  refine r_iload (pc := 632) h 1 d_L_law_632 rfl ?_
  refine r_iconst (pc := 634) h (v := nI 1) d_L_law_634 (by decide) ?_
  refine r_iadd (pc := 635) h (z := nI (i + 1)) d_L_law_635 (nI_add _ _) ?_
  refine r_sld (pc := 636) h hS (i + 1) (z := nI t) d_L_law_636 rfl (by omega) e1 ?_
  refine r_aload_n (pc := 637) h 5 d_L_law_637 rfl rfl ?_
  refine r_iload (pc := 638) h 1 d_L_law_638 rfl ?_
  refine r_iconst (pc := 640) h (v := nI 2) d_L_law_640 (by decide) ?_
  refine r_iadd (pc := 641) h (z := nI (i + 2)) d_L_law_641 (nI_add _ _) ?_
  refine r_sld (pc := 642) h hS (i + 2) (z := nI r1) d_L_law_642 rfl (by omega) e2 ?_
  refine r_aload_n (pc := 643) h 5 d_L_law_643 rfl rfl ?_
  refine r_iload (pc := 644) h 1 d_L_law_644 rfl ?_
  refine r_iconst (pc := 646) h (v := nI 3) d_L_law_646 (by decide) ?_
  refine r_iadd (pc := 647) h (z := nI (i + 3)) d_L_law_647 (nI_add _ _) ?_
  refine r_sld (pc := 648) h hS (i + 3) (z := nI v) d_L_law_648 rfl (by omega) e3 ?_
  refine r_aload_n (pc := 649) h 5 d_L_law_649 rfl rfl ?_
  refine r_iload (pc := 650) h 1 d_L_law_650 rfl ?_
  refine r_iconst (pc := 652) h (v := nI 4) d_L_law_652 (by decide) ?_
  refine r_iadd (pc := 653) h (z := nI (i + 4)) d_L_law_653 (nI_add _ _) ?_
  refine r_sld (pc := 654) h hS (i + 4) (z := nI w) d_L_law_654 rfl (by omega) e4 ?_
  refine Wv.swp ?_
  refine r_invVv (pc := 655) h 0 (st := []) d_L_law_655 ((m_swap t ht r1 v w hr1 hv hw).frame ((cw G a (va_up hd t F) wk' sp' ct ky nm) ++ oc G o of)) (r_cV h wc_M_swap w_420 w_3 w_421 w_422 hd_M_swap ⟨(Nat.le_of_ble_eq_true rfl), (Nat.le_of_ble_eq_true rfl)⟩ rfl rfl) (ap_l mw_0) rfl rfl rfl (Nat.le_of_ble_eq_true rfl) ⟨hc, hs⟩ rfl ?_
  refine r_aload_n (pc := 658) h 3 d_L_law_658 rfl rfl ?_
  refine r_invVa (pc := 659) h 0 (st := []) d_L_law_659 ((c_thrown).frame ((cw G a (va_up hd t F) wk' sp' ct ky nm) ++ oc G o of)) (r_cV h wc_M_thrown w_370 w_3 w_371 w_372 hd_M_thrown ⟨(Nat.le_of_ble_eq_true rfl), (Nat.le_of_ble_eq_true rfl)⟩ rfl rfl) (ap_l mw_0) rfl rfl rfl (Nat.le_of_ble_eq_true rfl) ⟨hc, hs⟩ rfl ?_
  refine Wv.swp ?_
  refine r_iload (pc := 662) h 0 d_L_law_662 rfl ?_
  refine r_icmp_eq_t (pc := 664) h (tgt := 669) d_L_law_664 (by decide) (by decide) ?_
  refine r_goto (pc := 669) h (tgt := 1114) d_L_law_669 (by decide) ?_
  refine Wv.sub [1, 2, 3, 4, 5] rfl ?_
  exact K _ _ _ _ _ _ _ _ _ _ _ _ (tie_up hT (fun x hx => ((mix_lt hx).trans (mix_lt hx)).trans ((hT r1 hr1 _ (swp_lt hx hv hw)).trans (hF x hx).symm)))
theorem lo_ways (h : Fx p m c s args meth "DiagramBenchLaw" code 7 (wd :: TT) G A) (hl : l.stackTraces = false) (hS : Sc A B L xs s) (hi : i + 5 ≤ L) (hc : cells + 1 ≤ room_1.cells) (hs : slots + 6 ≤ room_1.slots) (hT : tie hd rg) (K : Lq p l e s m args below meth c G A (cells + 1) (slots + 6) Q a o b 1114 (lvL a b o B i)) (r1 : Nat) (hr1 : r1 < 16) (e1 : xs (i + 1) = nI r1) : Wv p l e room_1 s m args below meth c G A 7 cells slots Q (lW G a o b hd wk sp ct ky nm of th rg mk fi fa) 747 (lvL a b o B i) [] := by
  refine r_aload_n (pc := 747) h 3 d_L_law_747 rfl rfl ?_
  refine r_aload_n (pc := 748) h 4 d_L_law_748 rfl rfl ?_
  refine r_iload (pc := 749) h 0 d_L_law_749 rfl ?_
  refine r_iconst (pc := 751) h (v := nI 1) d_L_law_751 (by decide) ?_
  refine r_iadd (pc := 752) h (z := nI (i + 1)) d_L_law_752 (nI_add _ _) ?_
  refine r_sld (pc := 753) h hS (i + 1) (z := nI r1) d_L_law_753 rfl (by omega) e1 ?_
  refine r_aload_n (pc := 754) h 1 d_L_law_754 rfl rfl ?_
  refine r_invSH (pc := 755) h (st := []) d_L_law_755 ((h_ways r1 hr1).frame (mw G b th rg mk fi fa)) w_245 w_243 w_0 w_244 hd_L_ways ⟨(Nat.le_of_ble_eq_true rfl), (Nat.le_of_ble_eq_true rfl)⟩ rfl rfl rfl rfl (Nat.le_of_ble_eq_true rfl) ⟨hc, hs⟩ ?_
  rintro v9 ws9 ⟨ws8, ⟨rfl, wk', sp', ct', ky', nm', of', rfl, hO⟩, rfl⟩
  refine ⟨rfl, ?_⟩
  show Wv p l e room_1 s m args below meth c G A 7 (cells + 1) (slots + 6) Q (((cw G a hd wk' sp' ct' ky' nm') ++ oc G o of') ++ (mw G b th rg mk fi fa)) 758 [(4, .int (nI i)), (3, .ref o), (2, .ref (b 0)), (1, .ref (a 0)), (0, .ref B)] [.int (nI 0)]
  refine r_istore (pc := 758) h (lv' := [(5, .int (nI 0)), (4, .int (nI i)), (3, .ref o), (2, .ref (b 0)), (1, .ref (a 0)), (0, .ref B)]) d_L_law_758 (by decide) rfl ?_
  refine r_aload_n (pc := 760) h 3 d_L_law_760 rfl rfl ?_
  refine r_aload_n (pc := 761) h 5 d_L_law_761 rfl rfl ?_
  refine r_iload (pc := 762) h 1 d_L_law_762 rfl ?_
  refine r_iconst (pc := 764) h (v := nI 1) d_L_law_764 (by decide) ?_
  refine r_iadd (pc := 765) h (z := nI (i + 1)) d_L_law_765 (nI_add _ _) ?_
  refine r_sld (pc := 766) h hS (i + 1) (z := nI r1) d_L_law_766 rfl (by omega) e1 ?_
  refine Wv.swp ?_
  refine r_invVa (pc := 767) h 0 (st := []) d_L_law_767 ((m_ways r1 hr1).frame ((cw G a hd wk' sp' ct' ky' nm') ++ oc G o of')) (r_cV h wc_M_ways w_428 w_3 w_429 w_430 hd_M_ways ⟨(Nat.le_of_ble_eq_true rfl), (Nat.le_of_ble_eq_true rfl)⟩ rfl rfl) (ap_l mw_0) rfl rfl rfl (Nat.le_of_ble_eq_true rfl) ⟨hc, hs⟩ rfl ?_
  refine r_istore (pc := 770) h (lv' := [(6, .int (nI (cbN (rg r1) 1024))), (5, .int (nI 0)), (4, .int (nI i)), (3, .ref o), (2, .ref (b 0)), (1, .ref (a 0)), (0, .ref B)]) d_L_law_770 (by decide) rfl ?_
  refine r_aload_n (pc := 772) h 4 d_L_law_772 rfl rfl ?_
  refine r_invVa (pc := 773) h 0 (st := []) d_L_law_773 ((c_thrown).frame ((cw G a hd wk' sp' ct' ky' nm') ++ oc G o of')) (r_cV h wc_M_thrown w_370 w_3 w_371 w_372 hd_M_thrown ⟨(Nat.le_of_ble_eq_true rfl), (Nat.le_of_ble_eq_true rfl)⟩ rfl rfl) (ap_l mw_0) rfl rfl rfl (Nat.le_of_ble_eq_true rfl) ⟨hc, hs⟩ rfl ?_
  refine Wv.swp ?_
  refine r_iload (pc := 776) h 1 d_L_law_776 rfl ?_
  refine r_icmp_eq_t (pc := 778) h (tgt := 783) d_L_law_778 (by decide) (by decide) ?_
  refine r_iload (pc := 783) h 1 d_L_law_783 rfl ?_
  refine r_if_ne_f (pc := 785) h (tgt := 800) d_L_law_785 (by decide) (by decide) ?_
  refine r_aload_n (pc := 788) h 3 d_L_law_788 rfl rfl ?_
  refine r_iconst (pc := 789) h (v := nI 0) d_L_law_789 (by decide) ?_
  refine r_laload (pc := 790) h 23 (z := (nI (wyN (hd r1) 16)).toInt64) 0 d_L_law_790 (ap_l oc_g) rfl (by decide) (by decide) hO ?_
  refine r_iload (pc := 791) h 0 d_L_law_791 rfl ?_
  refine r_i2l (pc := 793) h (z := (nI (cbN (rg r1) 1024)).toInt64) d_L_law_793 rfl ?_
  refine r_lcmp (pc := 794) h (z := 0) d_L_law_794 (by rw [← ways_eq (fun x hx => hT r1 hr1 x hx)]; exact lc_self _) ?_
  refine r_if_eq_t (pc := 795) h (tgt := 800) d_L_law_795 (by decide) rfl ?_
  refine r_goto (pc := 800) h (tgt := 1114) d_L_law_800 (by decide) ?_
  refine Wv.sub [2, 3, 4, 5, 6] rfl ?_
  exact K _ _ _ _ _ _ _ _ _ _ _ _ hT
theorem lo_hangs (h : Fx p m c s args meth "DiagramBenchLaw" code 7 (wd :: TT) G A) (hl : l.stackTraces = false) (hS : Sc A B L xs s) (hi : i + 5 ≤ L) (hc : cells + 1 ≤ room_1.cells) (hs : slots + 6 ≤ room_1.slots) (hT : tie hd rg) (K : Lq p l e s m args below meth c G A (cells + 1) (slots + 6) Q a o b 1114 (lvL a b o B i)) (r1 : Nat) (hr1 : r1 < 16) (e1 : xs (i + 1) = nI r1) : Wv p l e room_1 s m args below meth c G A 7 cells slots Q (lW G a o b hd wk sp ct ky nm of th rg mk fi fa) 859 (lvL a b o B i) [] := by
  refine r_aload_n (pc := 859) h 3 d_L_law_859 rfl rfl ?_
  refine r_aload_n (pc := 860) h 4 d_L_law_860 rfl rfl ?_
  refine r_iload (pc := 861) h 0 d_L_law_861 rfl ?_
  refine r_iconst (pc := 863) h (v := nI 1) d_L_law_863 (by decide) ?_
  refine r_iadd (pc := 864) h (z := nI (i + 1)) d_L_law_864 (nI_add _ _) ?_
  refine r_sld (pc := 865) h hS (i + 1) (z := nI r1) d_L_law_865 rfl (by omega) e1 ?_
  refine r_aload_n (pc := 866) h 1 d_L_law_866 rfl rfl ?_
  refine r_invSH (pc := 867) h (st := []) d_L_law_867 ((h_hangs r1 hr1).frame (mw G b th rg mk fi fa)) w_290 w_288 w_0 w_289 hd_L_hangs ⟨(Nat.le_of_ble_eq_true rfl), (Nat.le_of_ble_eq_true rfl)⟩ rfl rfl rfl rfl (Nat.le_of_ble_eq_true rfl) ⟨hc, hs⟩ ?_
  rintro v9 ws9 ⟨ws8, ⟨rfl, wk', sp', ct', ky', nm', of', rfl, hO⟩, rfl⟩
  refine ⟨rfl, ?_⟩
  show Wv p l e room_1 s m args below meth c G A 7 (cells + 1) (slots + 6) Q (((cw G a hd wk' sp' ct' ky' nm') ++ oc G o of') ++ (mw G b th rg mk fi fa)) 870 [(4, .int (nI i)), (3, .ref o), (2, .ref (b 0)), (1, .ref (a 0)), (0, .ref B)] [.int (nI 0)]
  refine r_istore (pc := 870) h (lv' := [(5, .int (nI 0)), (4, .int (nI i)), (3, .ref o), (2, .ref (b 0)), (1, .ref (a 0)), (0, .ref B)]) d_L_law_870 (by decide) rfl ?_
  refine r_aload_n (pc := 872) h 3 d_L_law_872 rfl rfl ?_
  refine r_aload_n (pc := 873) h 5 d_L_law_873 rfl rfl ?_
  refine r_iload (pc := 874) h 1 d_L_law_874 rfl ?_
  refine r_iconst (pc := 876) h (v := nI 1) d_L_law_876 (by decide) ?_
  refine r_iadd (pc := 877) h (z := nI (i + 1)) d_L_law_877 (nI_add _ _) ?_
  refine r_sld (pc := 878) h hS (i + 1) (z := nI r1) d_L_law_878 rfl (by omega) e1 ?_
  refine Wv.swp ?_
  refine r_invVa (pc := 879) h 0 (st := []) d_L_law_879 ((m_hangs r1 hr1).frame ((cw G a hd wk' sp' ct' ky' nm') ++ oc G o of')) (r_cV h wc_M_hangs w_442 w_3 w_443 w_444 hd_M_hangs ⟨(Nat.le_of_ble_eq_true rfl), (Nat.le_of_ble_eq_true rfl)⟩ rfl rfl) (ap_l mw_0) rfl rfl rfl (Nat.le_of_ble_eq_true rfl) ⟨hc, hs⟩ rfl ?_
  refine r_istore (pc := 882) h (lv' := [(6, .int (nI (hrN (rg r1) 10))), (5, .int (nI 0)), (4, .int (nI i)), (3, .ref o), (2, .ref (b 0)), (1, .ref (a 0)), (0, .ref B)]) d_L_law_882 (by decide) rfl ?_
  refine r_aload_n (pc := 884) h 4 d_L_law_884 rfl rfl ?_
  refine r_invVa (pc := 885) h 0 (st := []) d_L_law_885 ((c_thrown).frame ((cw G a hd wk' sp' ct' ky' nm') ++ oc G o of')) (r_cV h wc_M_thrown w_370 w_3 w_371 w_372 hd_M_thrown ⟨(Nat.le_of_ble_eq_true rfl), (Nat.le_of_ble_eq_true rfl)⟩ rfl rfl) (ap_l mw_0) rfl rfl rfl (Nat.le_of_ble_eq_true rfl) ⟨hc, hs⟩ rfl ?_
  refine Wv.swp ?_
  refine r_iload (pc := 888) h 1 d_L_law_888 rfl ?_
  refine r_icmp_eq_t (pc := 890) h (tgt := 895) d_L_law_890 (by decide) (by decide) ?_
  refine r_iload (pc := 895) h 1 d_L_law_895 rfl ?_
  refine r_if_ne_f (pc := 897) h (tgt := 912) d_L_law_897 (by decide) (by decide) ?_
  refine r_aload_n (pc := 900) h 3 d_L_law_900 rfl rfl ?_
  refine r_iconst (pc := 901) h (v := nI 0) d_L_law_901 (by decide) ?_
  refine r_laload (pc := 902) h 23 (z := (nI (hgN (hd r1) 10)).toInt64) 0 d_L_law_902 (ap_l oc_g) rfl (by decide) (by decide) hO ?_
  refine r_iload (pc := 903) h 0 d_L_law_903 rfl ?_
  refine r_i2l (pc := 905) h (z := (nI (hrN (rg r1) 10)).toInt64) d_L_law_905 rfl ?_
  refine r_lcmp (pc := 906) h (z := 0) d_L_law_906 (by rw [← hang_eq (fun x hx => hT r1 hr1 x hx) 10 (Nat.le_refl _)]; exact lc_self _) ?_
  refine r_if_eq_t (pc := 907) h (tgt := 912) d_L_law_907 (by decide) rfl ?_
  refine r_goto (pc := 912) h (tgt := 1114) d_L_law_912 (by decide) ?_
  refine Wv.sub [2, 3, 4, 5, 6] rfl ?_
  exact K _ _ _ _ _ _ _ _ _ _ _ _ hT
theorem lo_first (h : Fx p m c s args meth "DiagramBenchLaw" code 7 (wd :: TT) G A) (hl : l.stackTraces = false) (hS : Sc A B L xs s) (hi : i + 5 ≤ L) (hc : cells + 1 ≤ room_1.cells) (hs : slots + 6 ≤ room_1.slots) (hT : tie hd rg) (K : Lq p l e s m args below meth c G A (cells + 1) (slots + 6) Q a o b 1114 (lvL a b o B i)) (r1 : Nat) (hr1 : r1 < 16) (e1 : xs (i + 1) = nI r1) (x0 : Nat) (hF : isF (sv (hd r1)) x0) : Wv p l e room_1 s m args below meth c G A 7 cells slots Q (lW G a o b hd wk sp ct ky nm of th rg mk fi fa) 803 (lvL a b o B i) [] := by
  refine r_aload_n (pc := 803) h 3 d_L_law_803 rfl rfl ?_
  refine r_aload_n (pc := 804) h 4 d_L_law_804 rfl rfl ?_
  refine r_iload (pc := 805) h 0 d_L_law_805 rfl ?_
  refine r_iconst (pc := 807) h (v := nI 1) d_L_law_807 (by decide) ?_
  refine r_iadd (pc := 808) h (z := nI (i + 1)) d_L_law_808 (nI_add _ _) ?_
  refine r_sld (pc := 809) h hS (i + 1) (z := nI r1) d_L_law_809 rfl (by omega) e1 ?_
  refine r_aload_n (pc := 810) h 1 d_L_law_810 rfl rfl ?_
  refine r_invSH (pc := 811) h (st := []) d_L_law_811 ((h_first r1 x0 hr1 hF).frame (mw G b th rg mk fi fa)) w_258 w_256 w_0 w_257 hd_L_first ⟨(Nat.le_of_ble_eq_true rfl), (Nat.le_of_ble_eq_true rfl)⟩ rfl rfl rfl rfl (Nat.le_of_ble_eq_true rfl) ⟨hc, hs⟩ ?_
  rintro v9 ws9 ⟨ws8, ⟨rfl, wk', sp', ct', ky', nm', of', rfl, hO⟩, rfl⟩
  refine ⟨rfl, ?_⟩
  show Wv p l e room_1 s m args below meth c G A 7 (cells + 1) (slots + 6) Q (((cw G a hd wk' sp' ct' ky' nm') ++ oc G o of') ++ (mw G b th rg mk fi fa)) 814 [(4, .int (nI i)), (3, .ref o), (2, .ref (b 0)), (1, .ref (a 0)), (0, .ref B)] [.int (nI 0)]
  refine r_istore (pc := 814) h (lv' := [(5, .int (nI 0)), (4, .int (nI i)), (3, .ref o), (2, .ref (b 0)), (1, .ref (a 0)), (0, .ref B)]) d_L_law_814 (by decide) rfl ?_
  refine r_aload_n (pc := 816) h 3 d_L_law_816 rfl rfl ?_
  refine r_aload_n (pc := 817) h 5 d_L_law_817 rfl rfl ?_
  refine r_iload (pc := 818) h 1 d_L_law_818 rfl ?_
  refine r_iconst (pc := 820) h (v := nI 1) d_L_law_820 (by decide) ?_
  refine r_iadd (pc := 821) h (z := nI (i + 1)) d_L_law_821 (nI_add _ _) ?_
  refine r_sld (pc := 822) h hS (i + 1) (z := nI r1) d_L_law_822 rfl (by omega) e1 ?_
  refine Wv.swp ?_
  refine r_invVa (pc := 823) h 0 (st := []) d_L_law_823 ((m_first r1 x0 hr1 (isF_eq (fun x hx => hT r1 hr1 x hx) hF)).frame ((cw G a hd wk' sp' ct' ky' nm') ++ oc G o of')) (r_cV h wc_M_first w_432 w_3 w_433 w_434 hd_M_first ⟨(Nat.le_of_ble_eq_true rfl), (Nat.le_of_ble_eq_true rfl)⟩ rfl rfl) (ap_l mw_0) rfl rfl rfl (Nat.le_of_ble_eq_true rfl) ⟨hc, hs⟩ rfl ?_
  refine r_istore (pc := 826) h (lv' := [(6, .int (nI (x0))), (5, .int (nI 0)), (4, .int (nI i)), (3, .ref o), (2, .ref (b 0)), (1, .ref (a 0)), (0, .ref B)]) d_L_law_826 (by decide) rfl ?_
  refine r_aload_n (pc := 828) h 4 d_L_law_828 rfl rfl ?_
  refine r_invVa (pc := 829) h 0 (st := []) d_L_law_829 ((c_thrown).frame ((cw G a hd wk' sp' ct' ky' nm') ++ oc G o of')) (r_cV h wc_M_thrown w_370 w_3 w_371 w_372 hd_M_thrown ⟨(Nat.le_of_ble_eq_true rfl), (Nat.le_of_ble_eq_true rfl)⟩ rfl rfl) (ap_l mw_0) rfl rfl rfl (Nat.le_of_ble_eq_true rfl) ⟨hc, hs⟩ rfl ?_
  refine Wv.swp ?_
  refine r_iload (pc := 832) h 1 d_L_law_832 rfl ?_
  refine r_icmp_eq_t (pc := 834) h (tgt := 839) d_L_law_834 (by decide) (by decide) ?_
  refine r_iload (pc := 839) h 1 d_L_law_839 rfl ?_
  refine r_if_ne_f (pc := 841) h (tgt := 856) d_L_law_841 (by decide) (by decide) ?_
  refine r_aload_n (pc := 844) h 3 d_L_law_844 rfl rfl ?_
  refine r_iconst (pc := 845) h (v := nI 0) d_L_law_845 (by decide) ?_
  refine r_laload (pc := 846) h 23 (z := (nI (x0)).toInt64) 0 d_L_law_846 (ap_l oc_g) rfl (by decide) (by decide) hO ?_
  refine r_iload (pc := 847) h 0 d_L_law_847 rfl ?_
  refine r_i2l (pc := 849) h (z := (nI (x0)).toInt64) d_L_law_849 rfl ?_
  refine r_lcmp (pc := 850) h (z := 0) d_L_law_850 (by rw [show x0 = x0 from rfl]; exact lc_self _) ?_
  refine r_if_eq_t (pc := 851) h (tgt := 856) d_L_law_851 (by decide) rfl ?_
  refine r_goto (pc := 856) h (tgt := 1114) d_L_law_856 (by decide) ?_
  refine Wv.sub [2, 3, 4, 5, 6] rfl ?_
  exact K _ _ _ _ _ _ _ _ _ _ _ _ hT
theorem lo_parts (h : Fx p m c s args meth "DiagramBenchLaw" code 7 (wd :: TT) G A) (hl : l.stackTraces = false) (hS : Sc A B L xs s) (hi : i + 5 ≤ L) (hc : cells + 1 ≤ room_1.cells) (hs : slots + 6 ≤ room_1.slots) (hT : tie hd rg) (K : Lq p l e s m args below meth c G A (cells + 1) (slots + 6) Q a o b 1114 (lvL a b o B i)) (r1 : Nat) (hr1 : r1 < 16) (e1 : xs (i + 1) = nI r1) : Wv p l e room_1 s m args below meth c G A 7 cells slots Q (lW G a o b hd wk sp ct ky nm of th rg mk fi fa) 990 (lvL a b o B i) [] := by
  refine r_aload_n (pc := 990) h 3 d_L_law_990 rfl rfl ?_
  refine r_aload_n (pc := 991) h 4 d_L_law_991 rfl rfl ?_
  refine r_iload (pc := 992) h 0 d_L_law_992 rfl ?_
  refine r_iconst (pc := 994) h (v := nI 1) d_L_law_994 (by decide) ?_
  refine r_iadd (pc := 995) h (z := nI (i + 1)) d_L_law_995 (nI_add _ _) ?_
  refine r_sld (pc := 996) h hS (i + 1) (z := nI r1) d_L_law_996 rfl (by omega) e1 ?_
  refine r_aload_n (pc := 997) h 1 d_L_law_997 rfl rfl ?_
  refine r_invSH (pc := 998) h (st := []) d_L_law_998 ((h_parts r1 hr1).frame (mw G b th rg mk fi fa)) w_307 w_305 w_0 w_306 hd_L_parts ⟨(Nat.le_of_ble_eq_true rfl), (Nat.le_of_ble_eq_true rfl)⟩ rfl rfl rfl rfl (Nat.le_of_ble_eq_true rfl) ⟨hc, hs⟩ ?_
  rintro v9 ws9 ⟨ws8, ⟨rfl, ct', ky', nm', of', L1, rfl, hO, n1, hL1⟩, rfl⟩
  refine ⟨rfl, ?_⟩
  show Wv p l e room_1 s m args below meth c G A 7 (cells + 1) (slots + 6) Q (((cw G a hd wk sp ct' ky' nm') ++ oc G o of') ++ (mw G b th rg mk fi fa)) 1001 [(4, .int (nI i)), (3, .ref o), (2, .ref (b 0)), (1, .ref (a 0)), (0, .ref B)] [.int (nI 0)]
  refine r_istore (pc := 1001) h (lv' := [(5, .int (nI 0)), (4, .int (nI i)), (3, .ref o), (2, .ref (b 0)), (1, .ref (a 0)), (0, .ref B)]) d_L_law_1001 (by decide) rfl ?_
  refine r_aload_n (pc := 1003) h 3 d_L_law_1003 rfl rfl ?_
  refine r_aload_n (pc := 1004) h 5 d_L_law_1004 rfl rfl ?_
  refine r_iload (pc := 1005) h 1 d_L_law_1005 rfl ?_
  refine r_iconst (pc := 1007) h (v := nI 1) d_L_law_1007 (by decide) ?_
  refine r_iadd (pc := 1008) h (z := nI (i + 1)) d_L_law_1008 (nI_add _ _) ?_
  refine r_sld (pc := 1009) h hS (i + 1) (z := nI r1) d_L_law_1009 rfl (by omega) e1 ?_
  refine Wv.swp ?_
  refine r_invVP (pc := 1010) h 0 (st := []) d_L_law_1010 ((m_parts r1 hr1).frame ((cw G a hd wk sp ct' ky' nm') ++ oc G o of')) (r_cV h wc_M_parts w_450 w_3 w_451 w_452 hd_M_parts ⟨(Nat.le_of_ble_eq_true rfl), (Nat.le_of_ble_eq_true rfl)⟩ rfl rfl) (ap_l mw_0) rfl rfl rfl (Nat.le_of_ble_eq_true rfl) ⟨hc, hs⟩ ?_
  rintro v9 ws9 ⟨ws8, ⟨fi', fa', L2, rfl, n2, hL2, rfl⟩, rfl⟩
  refine ⟨rfl, ?_⟩
  show Wv p l e room_1 s m args below meth c G A 7 (cells + 1) (slots + 6) Q ((mw G b (bI false) rg mk fi' fa') ++ ((cw G a hd wk sp ct' ky' nm') ++ oc G o of')) 1013 [(5, .int (nI 0)), (4, .int (nI i)), (3, .ref o), (2, .ref (b 0)), (1, .ref (a 0)), (0, .ref B)] [.int (nI (L2.length))]
  refine r_istore (pc := 1013) h (lv' := [(6, .int (nI (L2.length))), (5, .int (nI 0)), (4, .int (nI i)), (3, .ref o), (2, .ref (b 0)), (1, .ref (a 0)), (0, .ref B)]) d_L_law_1013 (by decide) rfl ?_
  refine r_aload_n (pc := 1015) h 4 d_L_law_1015 rfl rfl ?_
  refine r_invVa (pc := 1016) h 0 (st := []) d_L_law_1016 ((c_thrown).frame ((cw G a hd wk sp ct' ky' nm') ++ oc G o of')) (r_cV h wc_M_thrown w_370 w_3 w_371 w_372 hd_M_thrown ⟨(Nat.le_of_ble_eq_true rfl), (Nat.le_of_ble_eq_true rfl)⟩ rfl rfl) (ap_l mw_0) rfl rfl rfl (Nat.le_of_ble_eq_true rfl) ⟨hc, hs⟩ rfl ?_
  refine Wv.swp ?_
  refine r_iload (pc := 1019) h 1 d_L_law_1019 rfl ?_
  refine r_icmp_eq_t (pc := 1021) h (tgt := 1026) d_L_law_1021 (by decide) (by decide) ?_
  refine r_iload (pc := 1026) h 1 d_L_law_1026 rfl ?_
  refine r_if_ne_f (pc := 1028) h (tgt := 1043) d_L_law_1028 (by decide) (by decide) ?_
  refine r_aload_n (pc := 1031) h 3 d_L_law_1031 rfl rfl ?_
  refine r_iconst (pc := 1032) h (v := nI 0) d_L_law_1032 (by decide) ?_
  refine r_laload (pc := 1033) h 23 (z := (nI (L1.length)).toInt64) 0 d_L_law_1033 (ap_l oc_g) rfl (by decide) (by decide) hO ?_
  refine r_iload (pc := 1034) h 0 d_L_law_1034 rfl ?_
  refine r_i2l (pc := 1036) h (z := (nI (L2.length)).toInt64) d_L_law_1036 rfl ?_
  refine r_lcmp (pc := 1037) h (z := 0) d_L_law_1037 (by rw [parts_eq hT (by omega) n1 n2 hL1 hL2]; exact lc_self _) ?_
  refine r_if_eq_t (pc := 1038) h (tgt := 1043) d_L_law_1038 (by decide) rfl ?_
  refine r_goto (pc := 1043) h (tgt := 1114) d_L_law_1043 (by decide) ?_
  refine Wv.sub [2, 3, 4, 5, 6] rfl ?_
  exact K _ _ _ _ _ _ _ _ _ _ _ _ hT
theorem lo_is_false (h : Fx p m c s args meth "DiagramBenchLaw" code 7 (wd :: TT) G A) (hl : l.stackTraces = false) (hS : Sc A B L xs s) (hi : i + 5 ≤ L) (hc : cells + 1 ≤ room_1.cells) (hs : slots + 6 ≤ room_1.slots) (hT : tie hd rg) (K : Lq p l e s m args below meth c G A (cells + 1) (slots + 6) Q a o b 1114 (lvL a b o B i)) (r1 : Nat) (hr1 : r1 < 16) (e1 : xs (i + 1) = nI r1) (y : Nat) (hy : y < 1024) (e2 : xs (i + 2) = nI y) (hv : sv (hd r1) y = false) : Wv p l e room_1 s m args below meth c G A 7 cells slots Q (lW G a o b hd wk sp ct ky nm of th rg mk fi fa) 672 (lvL a b o B i) [] := by
  refine r_aload_n (pc := 672) h 3 d_L_law_672 rfl rfl ?_
  refine r_aload_n (pc := 673) h 4 d_L_law_673 rfl rfl ?_
  refine r_iload (pc := 674) h 0 d_L_law_674 rfl ?_
  refine r_iconst (pc := 676) h (v := nI 1) d_L_law_676 (by decide) ?_
  refine r_iadd (pc := 677) h (z := nI (i + 1)) d_L_law_677 (nI_add _ _) ?_
  refine r_sld (pc := 678) h hS (i + 1) (z := nI r1) d_L_law_678 rfl (by omega) e1 ?_
  refine r_aload_n (pc := 679) h 4 d_L_law_679 rfl rfl ?_
  refine r_iload (pc := 680) h 0 d_L_law_680 rfl ?_
  refine r_iconst (pc := 682) h (v := nI 2) d_L_law_682 (by decide) ?_
  refine r_iadd (pc := 683) h (z := nI (i + 2)) d_L_law_683 (nI_add _ _) ?_
  refine r_sld (pc := 684) h hS (i + 2) (z := nI y) d_L_law_684 rfl (by omega) e2 ?_
  refine r_aload_n (pc := 685) h 1 d_L_law_685 rfl rfl ?_
  refine r_invSH (pc := 686) h (st := []) d_L_law_686 ((h_is r1 y hr1 hy).frame (mw G b th rg mk fi fa)) w_235 w_233 w_0 w_234 hd_L_is ⟨(Nat.le_of_ble_eq_true rfl), (Nat.le_of_ble_eq_true rfl)⟩ rfl rfl rfl rfl (Nat.le_of_ble_eq_true rfl) ⟨hc, hs⟩ ?_
  rintro v9 ws9 ⟨ws8, ⟨rfl, wk', sp', ct', ky', nm', of', rfl, hO⟩, rfl⟩
  refine ⟨rfl, ?_⟩
  show Wv p l e room_1 s m args below meth c G A 7 (cells + 1) (slots + 6) Q (((cw G a hd wk' sp' ct' ky' nm') ++ oc G o of') ++ (mw G b th rg mk fi fa)) 689 [(4, .int (nI i)), (3, .ref o), (2, .ref (b 0)), (1, .ref (a 0)), (0, .ref B)] [.int (nI 0)]
  refine r_istore (pc := 689) h (lv' := [(5, .int (nI 0)), (4, .int (nI i)), (3, .ref o), (2, .ref (b 0)), (1, .ref (a 0)), (0, .ref B)]) d_L_law_689 (by decide) rfl ?_
  refine r_aload_n (pc := 691) h 3 d_L_law_691 rfl rfl ?_
  refine r_aload_n (pc := 692) h 5 d_L_law_692 rfl rfl ?_
  refine r_iload (pc := 693) h 1 d_L_law_693 rfl ?_
  refine r_iconst (pc := 695) h (v := nI 1) d_L_law_695 (by decide) ?_
  refine r_iadd (pc := 696) h (z := nI (i + 1)) d_L_law_696 (nI_add _ _) ?_
  refine r_sld (pc := 697) h hS (i + 1) (z := nI r1) d_L_law_697 rfl (by omega) e1 ?_
  refine r_aload_n (pc := 698) h 5 d_L_law_698 rfl rfl ?_
  refine r_iload (pc := 699) h 1 d_L_law_699 rfl ?_
  refine r_iconst (pc := 701) h (v := nI 2) d_L_law_701 (by decide) ?_
  refine r_iadd (pc := 702) h (z := nI (i + 2)) d_L_law_702 (nI_add _ _) ?_
  refine r_sld (pc := 703) h hS (i + 2) (z := nI y) d_L_law_703 rfl (by omega) e2 ?_
  refine Wv.swp ?_
  refine r_invVa (pc := 704) h 0 (st := []) d_L_law_704 ((m_is r1 y hr1 hy).frame ((cw G a hd wk' sp' ct' ky' nm') ++ oc G o of')) (r_cV h wc_M_is w_424 w_3 w_425 w_426 hd_M_is ⟨(Nat.le_of_ble_eq_true rfl), (Nat.le_of_ble_eq_true rfl)⟩ rfl rfl) (ap_l mw_0) rfl rfl rfl (Nat.le_of_ble_eq_true rfl) ⟨hc, hs⟩ rfl ?_
  refine r_istore (pc := 707) h (lv' := [(6, .int (bI (rg r1 y))), (5, .int (nI 0)), (4, .int (nI i)), (3, .ref o), (2, .ref (b 0)), (1, .ref (a 0)), (0, .ref B)]) d_L_law_707 (by decide) rfl ?_
  refine r_aload_n (pc := 709) h 4 d_L_law_709 rfl rfl ?_
  refine r_invVa (pc := 710) h 0 (st := []) d_L_law_710 ((c_thrown).frame ((cw G a hd wk' sp' ct' ky' nm') ++ oc G o of')) (r_cV h wc_M_thrown w_370 w_3 w_371 w_372 hd_M_thrown ⟨(Nat.le_of_ble_eq_true rfl), (Nat.le_of_ble_eq_true rfl)⟩ rfl rfl) (ap_l mw_0) rfl rfl rfl (Nat.le_of_ble_eq_true rfl) ⟨hc, hs⟩ rfl ?_
  refine Wv.swp ?_
  refine r_iload (pc := 713) h 1 d_L_law_713 rfl ?_
  refine r_icmp_eq_t (pc := 715) h (tgt := 720) d_L_law_715 (by decide) (by decide) ?_
  refine r_iload (pc := 720) h 1 d_L_law_720 rfl ?_
  refine r_if_ne_f (pc := 722) h (tgt := 744) d_L_law_722 (by decide) (by decide) ?_
  refine r_aload_n (pc := 725) h 3 d_L_law_725 rfl rfl ?_
  refine r_iconst (pc := 726) h (v := nI 0) d_L_law_726 (by decide) ?_
  refine r_laload (pc := 727) h 23 (z := 0) 0 d_L_law_727 (ap_l oc_g) rfl (by decide) (by decide) (hO.trans (by rw [hv]; rfl)) ?_
  refine r_iload (pc := 728) h 0 d_L_law_728 rfl ?_
  refine r_if_eq_t (pc := 730) h (tgt := 737) d_L_law_730 (by decide) (by rw [hT r1 hr1 y hy, hv]; decide) ?_
  refine r_lconst (pc := 737) h (v := 0) d_L_law_737 (by decide) ?_
  refine r_lcmp (pc := 738) h (z := 0) d_L_law_738 (lc_self _) ?_
  refine r_if_eq_t (pc := 739) h (tgt := 744) d_L_law_739 (by decide) rfl ?_
  refine r_goto (pc := 744) h (tgt := 1114) d_L_law_744 (by decide) ?_
  refine Wv.sub [2, 3, 4, 5, 6] rfl ?_
  exact K _ _ _ _ _ _ _ _ _ _ _ _ hT
theorem lo_same_false (h : Fx p m c s args meth "DiagramBenchLaw" code 7 (wd :: TT) G A) (hl : l.stackTraces = false) (hS : Sc A B L xs s) (hi : i + 5 ≤ L) (hc : cells + 1 ≤ room_1.cells) (hs : slots + 6 ≤ room_1.slots) (hT : tie hd rg) (K : Lq p l e s m args below meth c G A (cells + 1) (slots + 6) Q a o b 1114 (lvL a b o B i)) (r1 : Nat) (hr1 : r1 < 16) (e1 : xs (i + 1) = nI r1) (r2 : Nat) (hr2 : r2 < 16) (e2 : xs (i + 2) = nI r2) (hv : bD (∀ i, i < 16 → hd r1 i = hd r2 i) = false) : Wv p l e room_1 s m args below meth c G A 7 cells slots Q (lW G a o b hd wk sp ct ky nm of th rg mk fi fa) 915 (lvL a b o B i) [] := by
  refine r_aload_n (pc := 915) h 3 d_L_law_915 rfl rfl ?_
  refine r_aload_n (pc := 916) h 4 d_L_law_916 rfl rfl ?_
  refine r_iload (pc := 917) h 0 d_L_law_917 rfl ?_
  refine r_iconst (pc := 919) h (v := nI 1) d_L_law_919 (by decide) ?_
  refine r_iadd (pc := 920) h (z := nI (i + 1)) d_L_law_920 (nI_add _ _) ?_
  refine r_sld (pc := 921) h hS (i + 1) (z := nI r1) d_L_law_921 rfl (by omega) e1 ?_
  refine r_aload_n (pc := 922) h 4 d_L_law_922 rfl rfl ?_
  refine r_iload (pc := 923) h 0 d_L_law_923 rfl ?_
  refine r_iconst (pc := 925) h (v := nI 2) d_L_law_925 (by decide) ?_
  refine r_iadd (pc := 926) h (z := nI (i + 2)) d_L_law_926 (nI_add _ _) ?_
  refine r_sld (pc := 927) h hS (i + 2) (z := nI r2) d_L_law_927 rfl (by omega) e2 ?_
  refine r_aload_n (pc := 928) h 1 d_L_law_928 rfl rfl ?_
  refine r_invSH (pc := 929) h (st := []) d_L_law_929 ((h_same r1 r2 hr1 hr2).frame (mw G b th rg mk fi fa)) w_300 w_298 w_0 w_299 hd_L_same ⟨(Nat.le_of_ble_eq_true rfl), (Nat.le_of_ble_eq_true rfl)⟩ rfl rfl rfl rfl (Nat.le_of_ble_eq_true rfl) ⟨hc, hs⟩ ?_
  rintro v9 ws9 ⟨ws8, ⟨rfl, wk', sp', ct', ky', nm', of', rfl, hO⟩, rfl⟩
  refine ⟨rfl, ?_⟩
  show Wv p l e room_1 s m args below meth c G A 7 (cells + 1) (slots + 6) Q (((cw G a hd wk' sp' ct' ky' nm') ++ oc G o of') ++ (mw G b th rg mk fi fa)) 932 [(4, .int (nI i)), (3, .ref o), (2, .ref (b 0)), (1, .ref (a 0)), (0, .ref B)] [.int (nI 0)]
  refine r_istore (pc := 932) h (lv' := [(5, .int (nI 0)), (4, .int (nI i)), (3, .ref o), (2, .ref (b 0)), (1, .ref (a 0)), (0, .ref B)]) d_L_law_932 (by decide) rfl ?_
  refine r_aload_n (pc := 934) h 3 d_L_law_934 rfl rfl ?_
  refine r_aload_n (pc := 935) h 5 d_L_law_935 rfl rfl ?_
  refine r_iload (pc := 936) h 1 d_L_law_936 rfl ?_
  refine r_iconst (pc := 938) h (v := nI 1) d_L_law_938 (by decide) ?_
  refine r_iadd (pc := 939) h (z := nI (i + 1)) d_L_law_939 (nI_add _ _) ?_
  refine r_sld (pc := 940) h hS (i + 1) (z := nI r1) d_L_law_940 rfl (by omega) e1 ?_
  refine r_aload_n (pc := 941) h 5 d_L_law_941 rfl rfl ?_
  refine r_iload (pc := 942) h 1 d_L_law_942 rfl ?_
  refine r_iconst (pc := 944) h (v := nI 2) d_L_law_944 (by decide) ?_
  refine r_iadd (pc := 945) h (z := nI (i + 2)) d_L_law_945 (nI_add _ _) ?_
  refine r_sld (pc := 946) h hS (i + 2) (z := nI r2) d_L_law_946 rfl (by omega) e2 ?_
  refine Wv.swp ?_
  refine r_invVa (pc := 947) h 0 (st := []) d_L_law_947 ((m_same r1 r2 hr1 hr2).frame ((cw G a hd wk' sp' ct' ky' nm') ++ oc G o of')) (r_cV h wc_M_same w_446 w_3 w_447 w_448 hd_M_same ⟨(Nat.le_of_ble_eq_true rfl), (Nat.le_of_ble_eq_true rfl)⟩ rfl rfl) (ap_l mw_0) rfl rfl rfl (Nat.le_of_ble_eq_true rfl) ⟨hc, hs⟩ rfl ?_
  refine r_istore (pc := 950) h (lv' := [(6, .int (bI (bD (∀ i, i < 1024 → rg r1 i = rg r2 i)))), (5, .int (nI 0)), (4, .int (nI i)), (3, .ref o), (2, .ref (b 0)), (1, .ref (a 0)), (0, .ref B)]) d_L_law_950 (by decide) rfl ?_
  refine r_aload_n (pc := 952) h 4 d_L_law_952 rfl rfl ?_
  refine r_invVa (pc := 953) h 0 (st := []) d_L_law_953 ((c_thrown).frame ((cw G a hd wk' sp' ct' ky' nm') ++ oc G o of')) (r_cV h wc_M_thrown w_370 w_3 w_371 w_372 hd_M_thrown ⟨(Nat.le_of_ble_eq_true rfl), (Nat.le_of_ble_eq_true rfl)⟩ rfl rfl) (ap_l mw_0) rfl rfl rfl (Nat.le_of_ble_eq_true rfl) ⟨hc, hs⟩ rfl ?_
  refine Wv.swp ?_
  refine r_iload (pc := 956) h 1 d_L_law_956 rfl ?_
  refine r_icmp_eq_t (pc := 958) h (tgt := 963) d_L_law_958 (by decide) (by decide) ?_
  refine r_iload (pc := 963) h 1 d_L_law_963 rfl ?_
  refine r_if_ne_f (pc := 965) h (tgt := 987) d_L_law_965 (by decide) (by decide) ?_
  refine r_aload_n (pc := 968) h 3 d_L_law_968 rfl rfl ?_
  refine r_iconst (pc := 969) h (v := nI 0) d_L_law_969 (by decide) ?_
  refine r_laload (pc := 970) h 23 (z := 0) 0 d_L_law_970 (ap_l oc_g) rfl (by decide) (by decide) (hO.trans (by rw [hv]; rfl)) ?_
  refine r_iload (pc := 971) h 0 d_L_law_971 rfl ?_
  refine r_if_eq_t (pc := 973) h (tgt := 980) d_L_law_973 (by decide) (by rw [same_eq hT hr1 hr2, hv]; decide) ?_
  refine r_lconst (pc := 980) h (v := 0) d_L_law_980 (by decide) ?_
  refine r_lcmp (pc := 981) h (z := 0) d_L_law_981 (lc_self _) ?_
  refine r_if_eq_t (pc := 982) h (tgt := 987) d_L_law_982 (by decide) rfl ?_
  refine r_goto (pc := 987) h (tgt := 1114) d_L_law_987 (by decide) ?_
  refine Wv.sub [2, 3, 4, 5, 6] rfl ?_
  exact K _ _ _ _ _ _ _ _ _ _ _ _ hT
theorem lo_is_true (h : Fx p m c s args meth "DiagramBenchLaw" code 7 (wd :: TT) G A) (hl : l.stackTraces = false) (hS : Sc A B L xs s) (hi : i + 5 ≤ L) (hc : cells + 1 ≤ room_1.cells) (hs : slots + 6 ≤ room_1.slots) (hT : tie hd rg) (K : Lq p l e s m args below meth c G A (cells + 1) (slots + 6) Q a o b 1114 (lvL a b o B i)) (r1 : Nat) (hr1 : r1 < 16) (e1 : xs (i + 1) = nI r1) (y : Nat) (hy : y < 1024) (e2 : xs (i + 2) = nI y) (hv : sv (hd r1) y = true) : Wv p l e room_1 s m args below meth c G A 7 cells slots Q (lW G a o b hd wk sp ct ky nm of th rg mk fi fa) 672 (lvL a b o B i) [] := by
  refine r_aload_n (pc := 672) h 3 d_L_law_672 rfl rfl ?_
  refine r_aload_n (pc := 673) h 4 d_L_law_673 rfl rfl ?_
  refine r_iload (pc := 674) h 0 d_L_law_674 rfl ?_
  refine r_iconst (pc := 676) h (v := nI 1) d_L_law_676 (by decide) ?_
  refine r_iadd (pc := 677) h (z := nI (i + 1)) d_L_law_677 (nI_add _ _) ?_
  refine r_sld (pc := 678) h hS (i + 1) (z := nI r1) d_L_law_678 rfl (by omega) e1 ?_
  refine r_aload_n (pc := 679) h 4 d_L_law_679 rfl rfl ?_
  refine r_iload (pc := 680) h 0 d_L_law_680 rfl ?_
  refine r_iconst (pc := 682) h (v := nI 2) d_L_law_682 (by decide) ?_
  refine r_iadd (pc := 683) h (z := nI (i + 2)) d_L_law_683 (nI_add _ _) ?_
  refine r_sld (pc := 684) h hS (i + 2) (z := nI y) d_L_law_684 rfl (by omega) e2 ?_
  refine r_aload_n (pc := 685) h 1 d_L_law_685 rfl rfl ?_
  refine r_invSH (pc := 686) h (st := []) d_L_law_686 ((h_is r1 y hr1 hy).frame (mw G b th rg mk fi fa)) w_235 w_233 w_0 w_234 hd_L_is ⟨(Nat.le_of_ble_eq_true rfl), (Nat.le_of_ble_eq_true rfl)⟩ rfl rfl rfl rfl (Nat.le_of_ble_eq_true rfl) ⟨hc, hs⟩ ?_
  rintro v9 ws9 ⟨ws8, ⟨rfl, wk', sp', ct', ky', nm', of', rfl, hO⟩, rfl⟩
  refine ⟨rfl, ?_⟩
  show Wv p l e room_1 s m args below meth c G A 7 (cells + 1) (slots + 6) Q (((cw G a hd wk' sp' ct' ky' nm') ++ oc G o of') ++ (mw G b th rg mk fi fa)) 689 [(4, .int (nI i)), (3, .ref o), (2, .ref (b 0)), (1, .ref (a 0)), (0, .ref B)] [.int (nI 0)]
  refine r_istore (pc := 689) h (lv' := [(5, .int (nI 0)), (4, .int (nI i)), (3, .ref o), (2, .ref (b 0)), (1, .ref (a 0)), (0, .ref B)]) d_L_law_689 (by decide) rfl ?_
  refine r_aload_n (pc := 691) h 3 d_L_law_691 rfl rfl ?_
  refine r_aload_n (pc := 692) h 5 d_L_law_692 rfl rfl ?_
  refine r_iload (pc := 693) h 1 d_L_law_693 rfl ?_
  refine r_iconst (pc := 695) h (v := nI 1) d_L_law_695 (by decide) ?_
  refine r_iadd (pc := 696) h (z := nI (i + 1)) d_L_law_696 (nI_add _ _) ?_
  refine r_sld (pc := 697) h hS (i + 1) (z := nI r1) d_L_law_697 rfl (by omega) e1 ?_
  refine r_aload_n (pc := 698) h 5 d_L_law_698 rfl rfl ?_
  refine r_iload (pc := 699) h 1 d_L_law_699 rfl ?_
  refine r_iconst (pc := 701) h (v := nI 2) d_L_law_701 (by decide) ?_
  refine r_iadd (pc := 702) h (z := nI (i + 2)) d_L_law_702 (nI_add _ _) ?_
  refine r_sld (pc := 703) h hS (i + 2) (z := nI y) d_L_law_703 rfl (by omega) e2 ?_
  refine Wv.swp ?_
  refine r_invVa (pc := 704) h 0 (st := []) d_L_law_704 ((m_is r1 y hr1 hy).frame ((cw G a hd wk' sp' ct' ky' nm') ++ oc G o of')) (r_cV h wc_M_is w_424 w_3 w_425 w_426 hd_M_is ⟨(Nat.le_of_ble_eq_true rfl), (Nat.le_of_ble_eq_true rfl)⟩ rfl rfl) (ap_l mw_0) rfl rfl rfl (Nat.le_of_ble_eq_true rfl) ⟨hc, hs⟩ rfl ?_
  refine r_istore (pc := 707) h (lv' := [(6, .int (bI (rg r1 y))), (5, .int (nI 0)), (4, .int (nI i)), (3, .ref o), (2, .ref (b 0)), (1, .ref (a 0)), (0, .ref B)]) d_L_law_707 (by decide) rfl ?_
  refine r_aload_n (pc := 709) h 4 d_L_law_709 rfl rfl ?_
  refine r_invVa (pc := 710) h 0 (st := []) d_L_law_710 ((c_thrown).frame ((cw G a hd wk' sp' ct' ky' nm') ++ oc G o of')) (r_cV h wc_M_thrown w_370 w_3 w_371 w_372 hd_M_thrown ⟨(Nat.le_of_ble_eq_true rfl), (Nat.le_of_ble_eq_true rfl)⟩ rfl rfl) (ap_l mw_0) rfl rfl rfl (Nat.le_of_ble_eq_true rfl) ⟨hc, hs⟩ rfl ?_
  refine Wv.swp ?_
  refine r_iload (pc := 713) h 1 d_L_law_713 rfl ?_
  refine r_icmp_eq_t (pc := 715) h (tgt := 720) d_L_law_715 (by decide) (by decide) ?_
  refine r_iload (pc := 720) h 1 d_L_law_720 rfl ?_
  refine r_if_ne_f (pc := 722) h (tgt := 744) d_L_law_722 (by decide) (by decide) ?_
  refine r_aload_n (pc := 725) h 3 d_L_law_725 rfl rfl ?_
  refine r_iconst (pc := 726) h (v := nI 0) d_L_law_726 (by decide) ?_
  refine r_laload (pc := 727) h 23 (z := 1) 0 d_L_law_727 (ap_l oc_g) rfl (by decide) (by decide) (hO.trans (by rw [hv]; rfl)) ?_
  refine r_iload (pc := 728) h 0 d_L_law_728 rfl ?_
  refine r_if_eq_f (pc := 730) h (tgt := 737) d_L_law_730 (by decide) (by rw [hT r1 hr1 y hy, hv]; decide) ?_
  refine r_lconst (pc := 733) h (v := 1) d_L_law_733 (by decide) ?_
  refine r_goto (pc := 734) h (tgt := 738) d_L_law_734 (by decide) ?_
  refine r_lcmp (pc := 738) h (z := 0) d_L_law_738 (lc_self _) ?_
  refine r_if_eq_t (pc := 739) h (tgt := 744) d_L_law_739 (by decide) rfl ?_
  refine r_goto (pc := 744) h (tgt := 1114) d_L_law_744 (by decide) ?_
  refine Wv.sub [2, 3, 4, 5, 6] rfl ?_
  exact K _ _ _ _ _ _ _ _ _ _ _ _ hT
theorem lo_same_true (h : Fx p m c s args meth "DiagramBenchLaw" code 7 (wd :: TT) G A) (hl : l.stackTraces = false) (hS : Sc A B L xs s) (hi : i + 5 ≤ L) (hc : cells + 1 ≤ room_1.cells) (hs : slots + 6 ≤ room_1.slots) (hT : tie hd rg) (K : Lq p l e s m args below meth c G A (cells + 1) (slots + 6) Q a o b 1114 (lvL a b o B i)) (r1 : Nat) (hr1 : r1 < 16) (e1 : xs (i + 1) = nI r1) (r2 : Nat) (hr2 : r2 < 16) (e2 : xs (i + 2) = nI r2) (hv : bD (∀ i, i < 16 → hd r1 i = hd r2 i) = true) : Wv p l e room_1 s m args below meth c G A 7 cells slots Q (lW G a o b hd wk sp ct ky nm of th rg mk fi fa) 915 (lvL a b o B i) [] := by
  refine r_aload_n (pc := 915) h 3 d_L_law_915 rfl rfl ?_
  refine r_aload_n (pc := 916) h 4 d_L_law_916 rfl rfl ?_
  refine r_iload (pc := 917) h 0 d_L_law_917 rfl ?_
  refine r_iconst (pc := 919) h (v := nI 1) d_L_law_919 (by decide) ?_
  refine r_iadd (pc := 920) h (z := nI (i + 1)) d_L_law_920 (nI_add _ _) ?_
  refine r_sld (pc := 921) h hS (i + 1) (z := nI r1) d_L_law_921 rfl (by omega) e1 ?_
  refine r_aload_n (pc := 922) h 4 d_L_law_922 rfl rfl ?_
  refine r_iload (pc := 923) h 0 d_L_law_923 rfl ?_
  refine r_iconst (pc := 925) h (v := nI 2) d_L_law_925 (by decide) ?_
  refine r_iadd (pc := 926) h (z := nI (i + 2)) d_L_law_926 (nI_add _ _) ?_
  refine r_sld (pc := 927) h hS (i + 2) (z := nI r2) d_L_law_927 rfl (by omega) e2 ?_
  refine r_aload_n (pc := 928) h 1 d_L_law_928 rfl rfl ?_
  refine r_invSH (pc := 929) h (st := []) d_L_law_929 ((h_same r1 r2 hr1 hr2).frame (mw G b th rg mk fi fa)) w_300 w_298 w_0 w_299 hd_L_same ⟨(Nat.le_of_ble_eq_true rfl), (Nat.le_of_ble_eq_true rfl)⟩ rfl rfl rfl rfl (Nat.le_of_ble_eq_true rfl) ⟨hc, hs⟩ ?_
  rintro v9 ws9 ⟨ws8, ⟨rfl, wk', sp', ct', ky', nm', of', rfl, hO⟩, rfl⟩
  refine ⟨rfl, ?_⟩
  show Wv p l e room_1 s m args below meth c G A 7 (cells + 1) (slots + 6) Q (((cw G a hd wk' sp' ct' ky' nm') ++ oc G o of') ++ (mw G b th rg mk fi fa)) 932 [(4, .int (nI i)), (3, .ref o), (2, .ref (b 0)), (1, .ref (a 0)), (0, .ref B)] [.int (nI 0)]
  refine r_istore (pc := 932) h (lv' := [(5, .int (nI 0)), (4, .int (nI i)), (3, .ref o), (2, .ref (b 0)), (1, .ref (a 0)), (0, .ref B)]) d_L_law_932 (by decide) rfl ?_
  refine r_aload_n (pc := 934) h 3 d_L_law_934 rfl rfl ?_
  refine r_aload_n (pc := 935) h 5 d_L_law_935 rfl rfl ?_
  refine r_iload (pc := 936) h 1 d_L_law_936 rfl ?_
  refine r_iconst (pc := 938) h (v := nI 1) d_L_law_938 (by decide) ?_
  refine r_iadd (pc := 939) h (z := nI (i + 1)) d_L_law_939 (nI_add _ _) ?_
  refine r_sld (pc := 940) h hS (i + 1) (z := nI r1) d_L_law_940 rfl (by omega) e1 ?_
  refine r_aload_n (pc := 941) h 5 d_L_law_941 rfl rfl ?_
  refine r_iload (pc := 942) h 1 d_L_law_942 rfl ?_
  refine r_iconst (pc := 944) h (v := nI 2) d_L_law_944 (by decide) ?_
  refine r_iadd (pc := 945) h (z := nI (i + 2)) d_L_law_945 (nI_add _ _) ?_
  refine r_sld (pc := 946) h hS (i + 2) (z := nI r2) d_L_law_946 rfl (by omega) e2 ?_
  refine Wv.swp ?_
  refine r_invVa (pc := 947) h 0 (st := []) d_L_law_947 ((m_same r1 r2 hr1 hr2).frame ((cw G a hd wk' sp' ct' ky' nm') ++ oc G o of')) (r_cV h wc_M_same w_446 w_3 w_447 w_448 hd_M_same ⟨(Nat.le_of_ble_eq_true rfl), (Nat.le_of_ble_eq_true rfl)⟩ rfl rfl) (ap_l mw_0) rfl rfl rfl (Nat.le_of_ble_eq_true rfl) ⟨hc, hs⟩ rfl ?_
  refine r_istore (pc := 950) h (lv' := [(6, .int (bI (bD (∀ i, i < 1024 → rg r1 i = rg r2 i)))), (5, .int (nI 0)), (4, .int (nI i)), (3, .ref o), (2, .ref (b 0)), (1, .ref (a 0)), (0, .ref B)]) d_L_law_950 (by decide) rfl ?_
  refine r_aload_n (pc := 952) h 4 d_L_law_952 rfl rfl ?_
  refine r_invVa (pc := 953) h 0 (st := []) d_L_law_953 ((c_thrown).frame ((cw G a hd wk' sp' ct' ky' nm') ++ oc G o of')) (r_cV h wc_M_thrown w_370 w_3 w_371 w_372 hd_M_thrown ⟨(Nat.le_of_ble_eq_true rfl), (Nat.le_of_ble_eq_true rfl)⟩ rfl rfl) (ap_l mw_0) rfl rfl rfl (Nat.le_of_ble_eq_true rfl) ⟨hc, hs⟩ rfl ?_
  refine Wv.swp ?_
  refine r_iload (pc := 956) h 1 d_L_law_956 rfl ?_
  refine r_icmp_eq_t (pc := 958) h (tgt := 963) d_L_law_958 (by decide) (by decide) ?_
  refine r_iload (pc := 963) h 1 d_L_law_963 rfl ?_
  refine r_if_ne_f (pc := 965) h (tgt := 987) d_L_law_965 (by decide) (by decide) ?_
  refine r_aload_n (pc := 968) h 3 d_L_law_968 rfl rfl ?_
  refine r_iconst (pc := 969) h (v := nI 0) d_L_law_969 (by decide) ?_
  refine r_laload (pc := 970) h 23 (z := 1) 0 d_L_law_970 (ap_l oc_g) rfl (by decide) (by decide) (hO.trans (by rw [hv]; rfl)) ?_
  refine r_iload (pc := 971) h 0 d_L_law_971 rfl ?_
  refine r_if_eq_f (pc := 973) h (tgt := 980) d_L_law_973 (by decide) (by rw [same_eq hT hr1 hr2, hv]; decide) ?_
  refine r_lconst (pc := 976) h (v := 1) d_L_law_976 (by decide) ?_
  refine r_goto (pc := 977) h (tgt := 981) d_L_law_977 (by decide) ?_
  refine r_lcmp (pc := 981) h (z := 0) d_L_law_981 (lc_self _) ?_
  refine r_if_eq_t (pc := 982) h (tgt := 987) d_L_law_982 (by decide) rfl ?_
  refine r_goto (pc := 987) h (tgt := 1114) d_L_law_987 (by decide) ?_
  refine Wv.sub [2, 3, 4, 5, 6] rfl ?_
  exact K _ _ _ _ _ _ _ _ _ _ _ _ hT
theorem lo_together (h : Fx p m c s args meth "DiagramBenchLaw" code 7 (wd :: TT) G A) (hl : l.stackTraces = false) (hS : Sc A B L xs s) (hi : i + 5 ≤ L) (hc : cells + 1 ≤ room_1.cells) (hs : slots + 6 ≤ room_1.slots) (hT : tie hd rg) (K : Lq p l e s m args below meth c G A (cells + 1) (slots + 6) Q a o b 1114 (lvL a b o B i)) (r1 r2 : Nat) (hab : r1 < r2) (hb16 : r2 ≤ 16) (e1 : xs (i + 1) = nI r1) (e2 : xs (i + 2) = nI r2) : Wv p l e room_1 s m args below meth c G A 7 cells slots Q (lW G a o b hd wk sp ct ky nm of th rg mk fi fa) 1046 (lvL a b o B i) [] := by
  refine r_aload_n (pc := 1046) h 3 d_L_law_1046 rfl rfl ?_
  refine r_aload_n (pc := 1047) h 4 d_L_law_1047 rfl rfl ?_
  refine r_iload (pc := 1048) h 0 d_L_law_1048 rfl ?_
  refine r_iconst (pc := 1050) h (v := nI 1) d_L_law_1050 (by decide) ?_
  refine r_iadd (pc := 1051) h (z := nI (i + 1)) d_L_law_1051 (nI_add _ _) ?_
  refine r_sld (pc := 1052) h hS (i + 1) (z := nI r1) d_L_law_1052 rfl (by omega) e1 ?_
  refine r_aload_n (pc := 1053) h 4 d_L_law_1053 rfl rfl ?_
  refine r_iload (pc := 1054) h 0 d_L_law_1054 rfl ?_
  refine r_iconst (pc := 1056) h (v := nI 2) d_L_law_1056 (by decide) ?_
  refine r_iadd (pc := 1057) h (z := nI (i + 2)) d_L_law_1057 (nI_add _ _) ?_
  refine r_sld (pc := 1058) h hS (i + 2) (z := nI r2) d_L_law_1058 rfl (by omega) e2 ?_
  refine r_aload_n (pc := 1059) h 1 d_L_law_1059 rfl rfl ?_
  refine r_invSH (pc := 1060) h (st := []) d_L_law_1060 ((h_together r1 r2 hab hb16).frame (mw G b th rg mk fi fa)) w_339 w_337 w_0 w_338 hd_L_together ⟨(Nat.le_of_ble_eq_true rfl), (Nat.le_of_ble_eq_true rfl)⟩ rfl rfl rfl rfl (Nat.le_of_ble_eq_true rfl) ⟨hc, hs⟩ ?_
  rintro v9 ws9 ⟨ws8, ⟨rfl, ct', ky', nm', of', L1, rfl, hO, n1, hL1⟩, rfl⟩
  refine ⟨rfl, ?_⟩
  show Wv p l e room_1 s m args below meth c G A 7 (cells + 1) (slots + 6) Q (((cw G a hd wk sp ct' ky' nm') ++ oc G o of') ++ (mw G b th rg mk fi fa)) 1063 [(4, .int (nI i)), (3, .ref o), (2, .ref (b 0)), (1, .ref (a 0)), (0, .ref B)] [.int (nI 0)]
  refine r_istore (pc := 1063) h (lv' := [(5, .int (nI 0)), (4, .int (nI i)), (3, .ref o), (2, .ref (b 0)), (1, .ref (a 0)), (0, .ref B)]) d_L_law_1063 (by decide) rfl ?_
  refine r_aload_n (pc := 1065) h 3 d_L_law_1065 rfl rfl ?_
  refine r_aload_n (pc := 1066) h 5 d_L_law_1066 rfl rfl ?_
  refine r_iload (pc := 1067) h 1 d_L_law_1067 rfl ?_
  refine r_iconst (pc := 1069) h (v := nI 1) d_L_law_1069 (by decide) ?_
  refine r_iadd (pc := 1070) h (z := nI (i + 1)) d_L_law_1070 (nI_add _ _) ?_
  refine r_sld (pc := 1071) h hS (i + 1) (z := nI r1) d_L_law_1071 rfl (by omega) e1 ?_
  refine r_aload_n (pc := 1072) h 5 d_L_law_1072 rfl rfl ?_
  refine r_iload (pc := 1073) h 1 d_L_law_1073 rfl ?_
  refine r_iconst (pc := 1075) h (v := nI 2) d_L_law_1075 (by decide) ?_
  refine r_iadd (pc := 1076) h (z := nI (i + 2)) d_L_law_1076 (nI_add _ _) ?_
  refine r_sld (pc := 1077) h hS (i + 2) (z := nI r2) d_L_law_1077 rfl (by omega) e2 ?_
  refine Wv.swp ?_
  refine r_invVP (pc := 1078) h 0 (st := []) d_L_law_1078 ((m_together r1 r2 hab hb16).frame ((cw G a hd wk sp ct' ky' nm') ++ oc G o of')) (r_cV h wc_M_together w_466 w_3 w_467 w_468 hd_M_together ⟨(Nat.le_of_ble_eq_true rfl), (Nat.le_of_ble_eq_true rfl)⟩ rfl rfl) (ap_l mw_0) rfl rfl rfl (Nat.le_of_ble_eq_true rfl) ⟨hc, hs⟩ ?_
  rintro v9 ws9 ⟨ws8, ⟨fi', fa', L2, rfl, n2, hL2, rfl⟩, rfl⟩
  refine ⟨rfl, ?_⟩
  show Wv p l e room_1 s m args below meth c G A 7 (cells + 1) (slots + 6) Q ((mw G b (bI false) rg mk fi' fa') ++ ((cw G a hd wk sp ct' ky' nm') ++ oc G o of')) 1081 [(5, .int (nI 0)), (4, .int (nI i)), (3, .ref o), (2, .ref (b 0)), (1, .ref (a 0)), (0, .ref B)] [.int (nI L2.length)]
  refine r_istore (pc := 1081) h (lv' := [(6, .int (nI L2.length)), (5, .int (nI 0)), (4, .int (nI i)), (3, .ref o), (2, .ref (b 0)), (1, .ref (a 0)), (0, .ref B)]) d_L_law_1081 (by decide) rfl ?_
  refine r_aload_n (pc := 1083) h 4 d_L_law_1083 rfl rfl ?_
  refine r_invVa (pc := 1084) h 0 (st := []) d_L_law_1084 ((c_thrown).frame ((cw G a hd wk sp ct' ky' nm') ++ oc G o of')) (r_cV h wc_M_thrown w_370 w_3 w_371 w_372 hd_M_thrown ⟨(Nat.le_of_ble_eq_true rfl), (Nat.le_of_ble_eq_true rfl)⟩ rfl rfl) (ap_l mw_0) rfl rfl rfl (Nat.le_of_ble_eq_true rfl) ⟨hc, hs⟩ rfl ?_
  refine Wv.swp ?_
  refine r_iload (pc := 1087) h 1 d_L_law_1087 rfl ?_
  refine r_icmp_eq_t (pc := 1089) h (tgt := 1094) d_L_law_1089 (by decide) (by decide) ?_
  refine r_iload (pc := 1094) h 1 d_L_law_1094 rfl ?_
  refine r_if_ne_f (pc := 1096) h (tgt := 1111) d_L_law_1096 (by decide) (by decide) ?_
  refine r_aload_n (pc := 1099) h 3 d_L_law_1099 rfl rfl ?_
  refine r_iconst (pc := 1100) h (v := nI 0) d_L_law_1100 (by decide) ?_
  refine r_laload (pc := 1101) h 23 (z := (nI L1.length).toInt64) 0 d_L_law_1101 (ap_l oc_g) rfl (by decide) (by decide) hO ?_
  refine r_iload (pc := 1102) h 0 d_L_law_1102 rfl ?_
  refine r_i2l (pc := 1104) h (z := (nI L2.length).toInt64) d_L_law_1104 rfl ?_
  refine r_lcmp (pc := 1105) h (z := 0) d_L_law_1105 (by rw [parts_eq hT hb16 n1 n2 hL1 hL2]; exact lc_self _) ?_
  refine r_if_eq_t (pc := 1106) h (tgt := 1111) d_L_law_1106 (by decide) rfl ?_
  refine r_goto (pc := 1111) h (tgt := 1114) d_L_law_1111 (by decide) ?_
  refine Wv.sub [2, 3, 4, 5, 6] rfl ?_
  exact K _ _ _ _ _ _ _ _ _ _ _ _ hT
theorem ln_first (h : Fx p m c s args meth "DiagramBenchLaw" code 7 (wd :: TT) G A) (hl : l.stackTraces = false) (hS : Sc A B L xs s) (hi : i + 5 ≤ L) (hc : cells + 1 ≤ room_1.cells) (hs : slots + 6 ≤ room_1.slots) (hT : tie hd rg) (K : Lq p l e s m args below meth c G A (cells + 1) (slots + 6) Q a o b 1114 (lvL a b o B i)) (r1 : Nat) (hr1 : r1 < 16) (e1 : xs (i + 1) = nI r1) (hn : ∀ y, y < 1024 → sv (hd r1) y = false) : Wv p l e room_1 s m args below meth c G A 7 cells slots Q (lW G a o b hd wk sp ct ky nm of th rg mk fi fa) 803 (lvL a b o B i) [] := by
  refine r_aload_n (pc := 803) h 3 d_L_law_803 rfl rfl ?_
  refine r_aload_n (pc := 804) h 4 d_L_law_804 rfl rfl ?_
  refine r_iload (pc := 805) h 0 d_L_law_805 rfl ?_
  refine r_iconst (pc := 807) h (v := nI 1) d_L_law_807 (by decide) ?_
  refine r_iadd (pc := 808) h (z := nI (i + 1)) d_L_law_808 (nI_add _ _) ?_
  refine r_sld (pc := 809) h hS (i + 1) (z := nI r1) d_L_law_809 rfl (by omega) e1 ?_
  refine r_aload_n (pc := 810) h 1 d_L_law_810 rfl rfl ?_
  refine r_invSH (pc := 811) h (st := []) d_L_law_811 ((hx_first_n hl r1 hr1 hn).frame (mw G b th rg mk fi fa)) w_258 w_256 w_0 w_257 hd_L_first ⟨(Nat.le_of_ble_eq_true rfl), (Nat.le_of_ble_eq_true rfl)⟩ rfl rfl rfl rfl (Nat.le_of_ble_eq_true rfl) ⟨hc, hs⟩ ?_
  rintro v9 ws9 ⟨ws8, ⟨rfl, rfl⟩, rfl⟩
  refine ⟨rfl, ?_⟩
  show Wv p l e room_1 s m args below meth c G A 7 (cells + 1) (slots + 6) Q (((cw G a hd (mix 16 (hd r1) wk) sp ct ky nm) ++ oc G o of) ++ (mw G b th rg mk fi fa)) 814 [(4, .int (nI i)), (3, .ref o), (2, .ref (b 0)), (1, .ref (a 0)), (0, .ref B)] [.int (nI 2)]
  refine r_istore (pc := 814) h (lv' := [(5, .int (nI 2)), (4, .int (nI i)), (3, .ref o), (2, .ref (b 0)), (1, .ref (a 0)), (0, .ref B)]) d_L_law_814 (by decide) rfl ?_
  refine r_aload_n (pc := 816) h 3 d_L_law_816 rfl rfl ?_
  refine r_aload_n (pc := 817) h 5 d_L_law_817 rfl rfl ?_
  refine r_iload (pc := 818) h 1 d_L_law_818 rfl ?_
  refine r_iconst (pc := 820) h (v := nI 1) d_L_law_820 (by decide) ?_
  refine r_iadd (pc := 821) h (z := nI (i + 1)) d_L_law_821 (nI_add _ _) ?_
  refine r_sld (pc := 822) h hS (i + 1) (z := nI r1) d_L_law_822 rfl (by omega) e1 ?_
  refine Wv.swp ?_
  refine r_invVa (pc := 823) h 0 (st := []) d_L_law_823 ((m_first_n r1 hr1 (fun y hy => (hT r1 hr1 y hy).trans (hn y hy))).frame ((cw G a hd (mix 16 (hd r1) wk) sp ct ky nm) ++ oc G o of)) (r_cV h wc_M_first w_432 w_3 w_433 w_434 hd_M_first ⟨(Nat.le_of_ble_eq_true rfl), (Nat.le_of_ble_eq_true rfl)⟩ rfl rfl) (ap_l mw_0) rfl rfl rfl (Nat.le_of_ble_eq_true rfl) ⟨hc, hs⟩ rfl ?_
  refine r_istore (pc := 826) h (lv' := [(6, .int (nI 0)), (5, .int (nI 2)), (4, .int (nI i)), (3, .ref o), (2, .ref (b 0)), (1, .ref (a 0)), (0, .ref B)]) d_L_law_826 (by decide) rfl ?_
  refine r_aload_n (pc := 828) h 4 d_L_law_828 rfl rfl ?_
  refine r_invVa (pc := 829) h 0 (st := []) d_L_law_829 ((c_thrown).frame ((cw G a hd (mix 16 (hd r1) wk) sp ct ky nm) ++ oc G o of)) (r_cV h wc_M_thrown w_370 w_3 w_371 w_372 hd_M_thrown ⟨(Nat.le_of_ble_eq_true rfl), (Nat.le_of_ble_eq_true rfl)⟩ rfl rfl) (ap_l mw_0) rfl rfl rfl (Nat.le_of_ble_eq_true rfl) ⟨hc, hs⟩ rfl ?_
  refine Wv.swp ?_
  refine r_iload (pc := 832) h 1 d_L_law_832 rfl ?_
  refine r_icmp_eq_t (pc := 834) h (tgt := 839) d_L_law_834 (by decide) (by decide) ?_
  refine r_iload (pc := 839) h 1 d_L_law_839 rfl ?_
  refine r_if_ne_t (pc := 841) h (tgt := 856) d_L_law_841 (by decide) (by decide) ?_
  refine r_goto (pc := 856) h (tgt := 1114) d_L_law_856 (by decide) ?_
  refine Wv.sub [2, 3, 4, 5, 6] rfl ?_
  exact K _ _ _ _ _ _ _ _ _ _ _ _ hT
end LC
