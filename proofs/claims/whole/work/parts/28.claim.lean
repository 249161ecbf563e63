-- the law's entry, and the claim
theorem nws_tbl : ∀ w ∈ nws, w ∈ tables_1 := by decide +kernel
theorem nws_on : ∀ w ∈ nws, w.onTables = true := by decide +kernel
theorem ao_K {s : State} {t : FieldType} (h : va_AOA t s) : ∃ c : ClassId, ArrOfT s c (.array t) ∧ va_RA s c (.array t) := by
  obtain ⟨comp, c, k, h1, h2, h3, h4, h5⟩ := arrayOverA_spec h
  exact ⟨c, fun n z => ⟨fun k h => (by cases h), k, h3, comp, h4⟩, h5⟩
theorem ac_K {s : State} {args : Array Value} {t : FieldType} (h : (Cond.arrayClass t).before args s = true) : ∃ c : ClassId, ArrOfT s c t ∧ s.vm.findClass ("[" ++ t.toString) = some c := by
  obtain ⟨c, k, comp, h1, h2, h3⟩ := Cond.arrayClass_spec (args := args) (first := s) (o := none) (s := s) (idx := []) h
  exact ⟨c, fun n z => ⟨fun k h => (by cases h), k, h2, comp, h3⟩, h1⟩
theorem st_R {s : State} {args : Array Value} {own tx : String} {k : Nat} (h1 : (Cond.stringRef own k tx).before args s = true) (h2 : (Cond.exactly (.string own k) "java/lang/String").before args s = true) : ∃ a : Nat, vk_R own k tx a s := by
  obtain ⟨a, c, cA, kA, q1, q2, q3, q4, q5, q6, -⟩ := Cond.exactly_spec (args := args) (first := s) (o := none) (s := s) (idx := []) h2
  exact ⟨a, vk_R.of h1 q1⟩
theorem law_fx {p : Program} {s : State} {m : MethodId} {meth : Method} {c : Code} {b L : Nat} {xs : Nat → Int32} (C0 : lw_At p s m meth c b L xs) : ∃ G : gG, Fx p m c s #[Value.ref b] meth "DiagramBenchLaw" code 7 (Cond.initialized "DiagramBenchLaw" :: TT) G (fun q => s.heap.size ≤ q) := by
  obtain ⟨hx, hb, hr, hml, hown, hts, hX, hbl, hlk, hgv⟩ := C0
  have hTT : ∀ w ∈ TT, w.before #[Value.ref b] s = true := fun w hw => hts w (List.mem_filter.mp hw).1
  have hT2 : ∀ w ∈ Cond.initialized "DiagramBenchLaw" :: TT, w.before #[Value.ref b] s = true := fun w hw => by
    rcases List.mem_cons.mp hw with e | e
    · rw [e]; exact hTT _ w_0
    · exact hTT w e
  have hfl := flat_of_before _ hgv
  have hA : ∀ a : Nat, a < s.heap.size → ¬ s.heap.size ≤ a := fun a ha => Nat.not_le.mpr ha
  obtain ⟨cD, iD, kD⟩ := u_known (C := R_D) (T := F_D) (N := 4) (n := 4) hT2 in_D (hTT _ w_14)
  obtain ⟨cG, iG, kG⟩ := u_known (C := R_G) (T := F_G) (N := 3) (n := 3) hT2 in_G (hTT _ w_24)
  obtain ⟨cM, iM, kM⟩ := u_known (C := R_M) (T := F_M) (N := 5) (n := 5) hT2 in_M (hTT _ w_346)
  obtain ⟨c0, a0, f0⟩ := ac_K (hTT _ w_41)
  obtain ⟨c1, a1, f1⟩ := ac_K (hTT _ w_40)
  obtain ⟨c2, a2, f2⟩ := ac_K (hTT _ w_369)
  have oL9 : (Cond.arrayOver (.array .long)).before #[Value.ref b] s = true := hts (.arrayOver (.array .long)) (List.mem_append_right _ (List.mem_of_getElem? (i := 22) (by decide +kernel)))
  have oL : va_AOA .long s := oL9
  have oZ9 : (Cond.arrayOver (.array .boolean)).before #[Value.ref b] s = true := hts (.arrayOver (.array .boolean)) (List.mem_append_right _ (List.mem_of_getElem? (i := 352) (by decide +kernel)))
  have oZ : va_AOA .boolean s := oZ9
  obtain ⟨c3, a3, f3⟩ := ao_K oL
  obtain ⟨c4, a4, f4⟩ := ao_K oZ
  have hK : va_K ((fun k => match k with | 0 => cD | 1 => cG | _ => cM), (fun k => match k with | 0 => iD | 1 => iG | _ => iM)) cls [(c0, .int), (c1, .long), (c2, .boolean), (c3, .array .long), (c4, .array .boolean)] s := by
    refine ⟨fun k q hq => ?_, fun k q hq => ?_⟩
    · match k, hq with
      | 0, hq => cases hq; exact kD
      | 1, hq => cases hq; exact kG
      | 2, hq => cases hq; exact kM
      | k + 3, hq => simp at hq
    · match k, hq with
      | 0, hq => cases hq; exact ⟨a0, f0⟩
      | 1, hq => cases hq; exact ⟨a1, f1⟩
      | 2, hq => cases hq; exact ⟨a2, f2⟩
      | 3, hq => cases hq; exact ⟨a3, f3⟩
      | 4, hq => cases hq; exact ⟨a4, f4⟩
      | k + 5, hq => simp at hq
  have harr : (Cond.arrayOf (Term.static "DiagramBench" "TRUE_PLACES" "[J") .long).before #[Value.ref b] s = true := hfl _ (by decide +kernel)
  have hlen : (Cond.eq (.length (Term.static "DiagramBench" "TRUE_PLACES" "[J")) (.int 6)).before #[Value.ref b] s = true := hfl _ (by decide +kernel)
  have he0 : (Cond.eq (.elem (Term.static "DiagramBench" "TRUE_PLACES" "[J") (.int 0)) (.long (-6148914691236517206))).before #[Value.ref b] s = true := hfl _ (by decide +kernel)
  have he1 : (Cond.eq (.elem (Term.static "DiagramBench" "TRUE_PLACES" "[J") (.int 1)) (.long (-3689348814741910324))).before #[Value.ref b] s = true := hfl _ (by decide +kernel)
  have he2 : (Cond.eq (.elem (Term.static "DiagramBench" "TRUE_PLACES" "[J") (.int 2)) (.long (-1085102592571150096))).before #[Value.ref b] s = true := hfl _ (by decide +kernel)
  have he3 : (Cond.eq (.elem (Term.static "DiagramBench" "TRUE_PLACES" "[J") (.int 3)) (.long (-71777214294589696))).before #[Value.ref b] s = true := hfl _ (by decide +kernel)
  have he4 : (Cond.eq (.elem (Term.static "DiagramBench" "TRUE_PLACES" "[J") (.int 4)) (.long (-281470681808896))).before #[Value.ref b] s = true := hfl _ (by decide +kernel)
  have he5 : (Cond.eq (.elem (Term.static "DiagramBench" "TRUE_PLACES" "[J") (.int 5)) (.long (-4294967296))).before #[Value.ref b] s = true := hfl _ (by decide +kernel)
  obtain ⟨t, ht, hTa⟩ := va_Tof (args := #[Value.ref b]) (s := s) (tm := (Term.static "DiagramBench" "TRUE_PLACES" "[J")) (ty := .long) (N := 6) (f := tpV) (A := fun q => s.heap.size ≤ q) (by decide) harr (Cond.eq_int hlen rfl) (fun j hj => by
    rcases (show j = 0 ∨ j = 1 ∨ j = 2 ∨ j = 3 ∨ j = 4 ∨ j = 5 by omega) with rfl | rfl | rfl | rfl | rfl | rfl
    · exact Cond.eq_long he0 rfl
    · exact Cond.eq_long he1 rfl
    · exact Cond.eq_long he2 rfl
    · exact Cond.eq_long he3 rfl
    · exact Cond.eq_long he4 rfl
    · exact Cond.eq_long he5 rfl) hA
  have hZ := va_Zof (hts _ (List.mem_append_right _ (List.mem_of_getElem? (i := 141) (by decide +kernel)))) (hTT _ w_1) ht hA
  have hU : vx_Zq Bundle.tN "UNASSIGNED_STACK" Bundle.steD (fun q => s.heap.size ≤ q) s s.heap := vx_Zqof (hts _ (List.mem_append_right _ (List.mem_of_getElem? (i := 93) (by decide +kernel)))) (hTT _ w_4) (hfl _ (by decide +kernel)) hA
  have hN : vx_Zq Bundle.tN "SUPPRESSED_SENTINEL" Bundle.listD (fun q => s.heap.size ≤ q) s s.heap := vx_Zqof (hts _ (List.mem_append_right _ (List.mem_of_getElem? (i := 95) (by decide +kernel)))) (hTT _ w_4) (hfl _ (by decide +kernel)) hA
  have hR : ∀ q ∈ strs, ∃ a : Nat, vk_R q.1 q.2.1 q.2.2 a s := by
    intro q hq
    simp only [strs, List.mem_cons, List.not_mem_nil, or_false] at hq
    rcases hq with rfl | rfl | rfl | rfl | rfl | rfl | rfl
    · exact st_R (hts _ (List.mem_append_right _ (List.mem_of_getElem? (i := 106) (by decide +kernel)))) (hfl _ (by decide +kernel))
    · exact st_R (hts _ (List.mem_append_right _ (List.mem_of_getElem? (i := 136) (by decide +kernel)))) (hfl _ (by decide +kernel))
    · exact st_R (hts _ (List.mem_append_right _ (List.mem_of_getElem? (i := 156) (by decide +kernel)))) (hfl _ (by decide +kernel))
    · exact st_R (hts _ (List.mem_append_right _ (List.mem_of_getElem? (i := 170) (by decide +kernel)))) (hfl _ (by decide +kernel))
    · exact st_R (hts _ (List.mem_append_right _ (List.mem_of_getElem? (i := 221) (by decide +kernel)))) (hfl _ (by decide +kernel))
    · exact st_R (hts _ (List.mem_append_right _ (List.mem_of_getElem? (i := 277) (by decide +kernel)))) (hfl _ (by decide +kernel))
    · exact st_R (hts _ (List.mem_append_right _ (List.mem_of_getElem? (i := 344) (by decide +kernel)))) (hfl _ (by decide +kernel))
  have hW : ∀ w ∈ nws, va_Nw w s := fun w hw => va_Nw.of (nws_on w hw) (hts w (List.mem_append_right _ (nws_tbl w hw)))
  have hC : va_Nc "java/util/NoSuchElementException" "java/lang/IllegalArgumentException" s := va_Nc.of (args := #[Value.ref b]) (hfl _ (by decide +kernel))
  exact ⟨⟨((fun k => match k with | 0 => cD | 1 => cG | _ => cM), (fun k => match k with | 0 => iD | 1 => iG | _ => iM)), fun k => match k with | 0 => c0 | 1 => c1 | 2 => c2 | 3 => c3 | _ => c4⟩, ⟨hx, hb, hml, hown, hT2⟩, hK, ⟨⟨t, hZ, hTa⟩, hU, hN, hR, hW, oL, oZ, hC⟩, fun q hq => hq, hlk⟩
/-- from the entry, for every script of at most 2560 ints, the law comes to its end with true -/
theorem whole_start {p : Program} {e : Env} {s : State} {m : MethodId} {below : List Frame} {meth : Method} {c : Code} (l : Launch) (hl : l.stackTraces = false) {b L : Nat} {xs : Nat → Int32} (hL : L ≤ 2560) (C0 : lw_At p s m meth c b L xs) : W p l e room_1 s m #[Value.ref b] below meth c s.heap [] 0 0 (lw_Z below #[Value.ref b] s) (entryFrame m ([Value.ref b] : List Value).toArray 7) := by
  obtain ⟨G, h⟩ := law_fx C0
  obtain ⟨-, -, hr, -, -, -, hX, hbl, -, -⟩ := C0
  rw [lg_entry_eq]
  exact law_body h hl hr ⟨hX, hbl, Nat.not_le.mpr hbl, hL⟩ s.heap [] _ (fun k q hq => by simp at hq) ⟨fun i j a b ha hb e => by simp at ha, fun k q hq => by simp at hq⟩ va_S.rf (lv_entry [Value.ref b] (Nat.le_of_ble_eq_true rfl))
set_option maxHeartbeats 4000000 in
theorem lw_walk (l : Launch) (hl : l.stackTraces = false) (b : Addr) (xs : List Int32) : MetFree l x (headSpec (Jvm.Cond.code x code maxLocals ret :: tables_1) room_1) (lw_P b xs) (fun _ _ _ _ _ => True) lw_Q := by
  refine MetFree.of_bodyS (code := code) (maxLocals := maxLocals) (ret := ret) (by decide) ?_ ?_
  · intro args s m h hn
    obtain ⟨meth, c, h1, h2, h3, h4, h5, h6, -, -⟩ := Cond.code_spec hn (atoms_spec (ws := Jvm.Cond.code x code maxLocals ret :: tables_1) h _ List.mem_cons_self)
    exact ⟨meth, c, h1, h2, h3, h4, h5, h6⟩
  · intro p e s m args below meth c s₁ B hml0 hP _
    obtain ⟨rfl, hx, hbd, hgv⟩ := hP
    obtain ⟨scr, harrAt, hlist, hof, hsmall⟩ := hx
    obtain ⟨hcb, hkn, -, -⟩ := State.arrayAt?_spec harrAt
    have hown : s.vm.findClass R_law = some m.cls := findClass_of_methodNamed B.named
    have hts0 : ∀ c ∈ (Jvm.Cond.code x code maxLocals ret :: tables_1), c.before #[Value.ref b] s = true := atoms_spec (ws := Jvm.Cond.code x code maxLocals ret :: tables_1) B.pre
    have hts : ∀ w ∈ lw_tbl, w.before #[Value.ref b] s = true := k2_hts_sels lw_privs (fun w hw => hts0 w (List.mem_cons_of_mem _ hw)) lw_privs_ok
    have hml : c.maxLocals = 7 := B.maxLocals_eq (hts0 _ List.mem_cons_self)
    have X₀ : Stand p l e room_1 s m #[Value.ref b] below meth c s₁ [] 0 0 := Stand.of_body B
    have hh0 : s₁.heap = s.heap := by rw [B.state]; rfl
    have hsz : scr.slots.size = xs.length := by rw [← Array.length_toList, hlist, List.length_map]
    have hval : ∀ j : Nat, j < xs.length → scr.slots[j]? = some (.int (xs.getD j 0)) := fun j hj => by
      rw [← Array.getElem?_toList, hlist]
      simp [hj]
    have hbl : b < s.heap.size := (Array.getElem?_eq_some_iff.mp hcb).1
    have hX : va_X b xs.length (fun j => xs.getD j 0) s s.heap := ⟨scr, hcb, hof, hkn, hsz, hval⟩
    have K : W p l e room_1 s m #[Value.ref b] below meth c s₁.heap [] 0 0 (lw_Z below #[Value.ref b] s) (entryFrame m ([Value.ref b] : List Value).toArray 7) := by
      rw [hh0]
      exact whole_start l hl hbd ⟨B.exec, B.bytes, B.returns, hml, hown, hts, hX, hbl, B.notSynchronized, hgv⟩
    obtain ⟨t, a1, o, b1, b2, b3⟩ := K s₁ rfl X₀
    exact ⟨t, o, a1, b1, b2, b3⟩
theorem lw_pre_spec {args : Array Value} {s : State} (h : (Jvm.Cond.and given_1 narrow_1).before args s = true) (hr : rest_1_c.before args s = true) : ∃ (b : Addr) (xs : List Int32), lw_P b xs args s := by
  have hs := flat_of_before _ h
  have hq := flat_of_before _ hr
  have hc : (Cond.count 1).before args s = true := hs _ (by decide +kernel)
  have harr : (Cond.arrayOf (.arg 0) .int).before args s = true := hs _ (by decide +kernel)
  have hle : (Cond.le (.length (.arg 0)) (.int 2560)).before args s = true := hs _ (by decide +kernel)
  have hlen : (Cond.isInt (.length (.arg 0))).before args s = true := hq _ (by decide +kernel)
  have hall : (Cond.all (.arg 0) (.isInt (.elem (.arg 0) (.index 0)))).before args s = true := hq _ (by decide +kernel)
  obtain ⟨b, xs, hb, hx⟩ := State.ints_of_pre rfl harr hlen hall
  have hsm : xs.length < 2 ^ 31 := hx.choose_spec.2.2.2
  have hev : (Term.length (.arg 0)).eval args s none [] s = some (.int xs.length.toInt32) := hx.length_eval hb
  have hv := Cond.le_ints hev (show (Term.int 2560).eval args s none [] s = some (.int 2560) from rfl)
  have hd : xs.length.toInt32 ≤ 2560 := by
    simpa [Cond.before, Cond.holds, hv] using hle
  have hN : xs.length ≤ 2560 := (Int32.ofNat_le_ofNat hsm (by decide)).mp (show Int32.ofNat xs.length ≤ Int32.ofNat 2560 from hd)
  exact ⟨b, xs, Cond.one_arg hc (show args[0]? = some (.ref b) from hb), hx, hN, h⟩
theorem lw_comes (l : Launch) (hl : l.stackTraces = false) : Comes l x (Jvm.Cond.code x code maxLocals ret :: tables_1) room_1 (fun tb e args s => Calls_1 tb e args s ∧ rest_1 tb e args s ∧ Pre_1 tb e args s)
    (fun _ _ args s o t => lw_Q args s o t) := by
  intro p e ha hc hk s m args below hf hfit hheap happ hpre
  obtain ⟨b, xs, hP⟩ := lw_pre_spec hpre.2.2 hpre.2.1
  obtain ⟨k, o, h1, h2, h3, hQ⟩ := lw_walk l hl b xs p e ha hc hk s m args below hf ((Spec.applies_iff_loose hf).mp happ).1 hP trivial
  exact ⟨k, o, h1, h2, h3, hQ⟩
theorem lw_frame {s t : State} {o : Outcome} {args : Array Value} (h : Framed s o t [] 601024 7293034) :
    Framed s o t (fieldLocs frame_1_writes args s ++ arrayLocs frame_1_arrays args s ++ staticLocs frame_1_statics s) 601024 7293034 := h
theorem lw_limb (L : Cond) (hL : ∀ (args : Array Value) (s t : State), L.after args s (.returned (some (.int 1))) t = true) :
    ArmFor flags0 classFile x code maxLocals ret World_1 tables_1 room_1 Calls_1 rest_1 Pre_1
      (fun tb e a s o t => postC L tb e a s o t ∧ Framed s o t (fieldLocs frame_1_writes a s ++ arrayLocs frame_1_arrays a s ++ staticLocs frame_1_statics s) 601024 7293034) := by
  intro l hfl _ _ p e ha hc hk s m args below hf hfit hheap happ hpre
  obtain ⟨k, o, h1, h2, h3, rfl, hF⟩ := lw_comes l (by unfold Launch.stackTraces; rw [hfl]; decide) p e ha hc hk s m args below hf hfit hheap happ hpre
  exact ⟨k, _, h1, h2, h3, hL args s _, lw_frame hF⟩
theorem i_vc : Claimed_1_1 ∧ Claimed_1_2 := ⟨lw_limb limb_1_1 (fun args s t => by simp [limb_1_1, Cond.after, Cond.holds, Cond.value]), lw_limb limb_1_2 (fun args s t => Cond.after_iff.mpr (by
  first | (rw [show limb_1_2 = Cond.eq .result (.int 1) from rfl, Cond.eq_ints (x := 1) (y := 1) rfl rfl]; simp; done) | (simp [limb_1_2, Cond.value, Term.eval]; done)))⟩

