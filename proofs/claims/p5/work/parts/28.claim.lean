set_option maxHeartbeats 4000000 in
set_option maxRecDepth 20000 in
theorem whole_start {p : Program} {e : Env} {s : State} {m : MethodId} {below : List Frame} {meth : Method} {c : Code} (l : Launch) (hst : l.stackTraces = false) {b L : Nat} {xs : Nat → Int32} (hL : L ≤ 1538) (C0 : lw_At p s m meth c b L xs) : W p l e room_1 s m #[Value.ref b] below meth c s.heap [] 0 0 (lw_Z below #[Value.ref b] s) (entryFrame m ([Value.ref b] : List Value).toArray 7) := by
  obtain ⟨hx, hb, hr, hml, hown, hts, hX, hbl, hlocks, hgv⟩ := id C0
  have htw : ∀ w ∈ wT, w.before #[Value.ref b] s = true := fun w hw => hts w (wT_in hw)
  obtain ⟨c0, i0, hK0⟩ := u_known (C := RX0) (T := TX0) (N := 4) (n := 4) htw inX0 (htw _ k116)
  obtain ⟨c1, i1, hK1⟩ := u_known (C := RX1) (T := TX1) (N := 2) (n := 2) htw inX1 (htw _ k188)
  obtain ⟨c2, i2, hK2⟩ := u_known (C := RX2) (T := TX2) (N := 3) (n := 3) htw inX2 (htw _ k100)
  obtain ⟨c3, i3, hK3⟩ := u_known (C := RX3) (T := TX3) (N := 9) (n := 9) htw inX3 (htw _ k180)
  obtain ⟨c4, i4, hK4⟩ := u_known (C := RX4) (T := TX4) (N := 2) (n := 2) htw inX4 (htw _ k86)
  obtain ⟨c5, i5, hK5⟩ := u_known (C := RX5) (T := TX5) (N := 6) (n := 6) htw inX5 (htw _ k142)
  obtain ⟨c6, i6, hK6⟩ := u_known (C := RX6) (T := TX6) (N := 4) (n := 4) htw inX6 (htw _ k136)
  obtain ⟨c7, i7, hK7⟩ := u_known (C := RX7) (T := TX7) (N := 11) (n := 11) htw inX7 (htw _ k72)
  obtain ⟨c8, i8, hK8⟩ := u_known (C := RX8) (T := TX8) (N := 31) (n := 31) htw inX8 (htw _ k988)
  obtain ⟨dC, dI, hKc⟩ : ∃ (dC : Nat → ClassId) (dI : Nat → Nat → Nat), ∀ (k : Nat) (q : vw_C), vwCl[k]? = some q → u_Kn s q.1 q.2.1 q.2.2 (dC k) (dI k) := by
    refine ⟨fun k => match k with | 0 => c0 | 1 => c1 | 2 => c2 | 3 => c3 | 4 => c4 | 5 => c5 | 6 => c6 | 7 => c7 | _ => c8, fun k => match k with | 0 => i0 | 1 => i1 | 2 => i2 | 3 => i3 | 4 => i4 | 5 => i5 | 6 => i6 | 7 => i7 | _ => i8, ?_⟩
    intro k q hq
    match k, hq with
    | 0, hq => cases hq; exact hK0
    | 1, hq => cases hq; exact hK1
    | 2, hq => cases hq; exact hK2
    | 3, hq => cases hq; exact hK3
    | 4, hq => cases hq; exact hK4
    | 5, hq => cases hq; exact hK5
    | 6, hq => cases hq; exact hK6
    | 7, hq => cases hq; exact hK7
    | 8, hq => cases hq; exact hK8
    | k + 9, hq => simp [vwCl] at hq
  obtain ⟨ca0, ka0, co0, ha0, hb0, hc0⟩ := Cond.arrayClass_spec (htw _ k98)
  obtain ⟨ca1, ka1, co1, ha1, hb1, hc1⟩ := Cond.arrayClass_spec (htw _ k134)
  obtain ⟨ca2, ka2, co2, ha2, hb2, hc2⟩ := Cond.arrayClass_spec (htw _ k200)
  obtain ⟨ca3, ka3, co3, ha3, hb3, hc3⟩ := Cond.arrayClass_spec (htw _ k1242)
  have hA : ∀ a : Nat, a < s.heap.size → ¬ (fun q : Nat => s.heap.size ≤ q) a := fun a h => Nat.not_le.mpr h
  have hs := flat_of_before _ hgv
  obtain ⟨t0, ht0, hT0⟩ := va_Tof (ty := .int) (tm := .static "FaxRows" "WHITE_RUNS" "[I") (N := 91) (f := fun j => .int (gT0.getD j 0)) (A := fun q : Nat => s.heap.size ≤ q) (by decide) (hs _ (by decide +kernel)) (va_eqt (z := 91) (hs _ (by decide +kernel))) (fun j hj => va_eqt (hs _ (gE0 j hj))) hA
  have hZ0 := va_Zref (hts _ gS0) (htw _ k46) ht0 hA
  obtain ⟨t1, ht1, hT1⟩ := va_Tof (ty := .int) (tm := .static "FaxRows" "BLACK_RUNS" "[I") (N := 91) (f := fun j => .int (gT1.getD j 0)) (A := fun q : Nat => s.heap.size ≤ q) (by decide) (hs _ (by decide +kernel)) (va_eqt (z := 91) (hs _ (by decide +kernel))) (fun j hj => va_eqt (hs _ (gE1 j hj))) hA
  have hZ1 := va_Zref (hts _ gS1) (htw _ k46) ht1 hA
  obtain ⟨t2, ht2, hT2⟩ := va_Tof (ty := .int) (tm := .static "FaxRows" "LONG_RUNS" "[I") (N := 13) (f := fun j => .int (gT2.getD j 0)) (A := fun q : Nat => s.heap.size ≤ q) (by decide) (hs _ (by decide +kernel)) (va_eqt (z := 13) (hs _ (by decide +kernel))) (fun j hj => va_eqt (hs _ (gE2 j hj))) hA
  have hZ2 := va_Zref (hts _ gS2) (htw _ k46) ht2 hA
  obtain ⟨t3, ht3, hT3⟩ := va_Tof (ty := .int) (tm := .static "FaxRows" "MODES" "[I") (N := 10) (f := fun j => .int (gT3.getD j 0)) (A := fun q : Nat => s.heap.size ≤ q) (by decide) (hs _ (by decide +kernel)) (va_eqt (z := 10) (hs _ (by decide +kernel))) (fun j hj => va_eqt (hs _ (gE3 j hj))) hA
  have hZ3 := va_Zref (hts _ gS3) (htw _ k46) ht3 hA
  have hthr : thr (fun q : Nat => s.heap.size ≤ q) s s.heap := by
    obtain ⟨sa, _, _, _, hsa, -⟩ := Cond.exactly_spec (args := #[Value.ref b]) (first := s) (o := none) (s := s) (idx := []) (hs _ thE)
    exact ⟨vx_Zqof (hts _ thU) (hts _ thI) (hs _ thUr) hA, vx_Zqof (hts _ thS) (hts _ thI) (hs _ thSr) hA, sa, vk_R.of (hts _ thT) hsa⟩
  obtain ⟨lx, hlx, hlv⟩ : ∃ lx : List Int32, lx.length = L ∧ ∀ j, j < L → lx.getD j 0 = xs j := ⟨(List.range L).map xs, by simp, fun j hj => by simp [List.getD, hj]⟩
  have fx : Fx p s m #[Value.ref b] meth c code 7 RL ((dC, dI), (fun k => match k with | 0 => ca0 | 1 => ca1 | 2 => ca2 | _ => ca3), (fun k => match k with | 0 => t0 | 1 => t1 | 2 => t2 | _ => t3), (b, lx)) (fun q : Nat => s.heap.size ≤ q) := by
    refine ⟨hx, hb, hml, hown, htw, ⟨hKc, ?_⟩, fun q h => h, hlocks, ?_, ?_, ?_, ?_, hthr⟩
    · intro k q hq
      match k, hq with
      | 0, hq => cases hq; exact ⟨fun n z => ⟨fun k h => (by cases h), ka0, hb0, co0, hc0⟩, ha0⟩
      | 1, hq => cases hq; exact ⟨fun n z => ⟨fun k h => (by cases h), ka1, hb1, co1, hc1⟩, ha1⟩
      | 2, hq => cases hq; exact ⟨fun n z => ⟨fun k h => (by cases h), ka2, hb2, co2, hc2⟩, ha2⟩
      | 3, hq => cases hq; exact ⟨fun n z => ⟨fun k h => (by cases h), ka3, hb3, co3, hc3⟩, ha3⟩
      | k + 4, hq => simp at hq
    · intro k hk
      rcases (show k = 0 ∨ k = 1 ∨ k = 2 ∨ k = 3 by omega) with rfl | rfl | rfl | rfl
      · exact ⟨hZ0, hT0⟩
      · exact ⟨hZ1, hT1⟩
      · exact ⟨hZ2, hT2⟩
      · exact ⟨hZ3, hT3⟩
    · exact fun w hw => va_Nw.of (nest_tab (wN_nest hw)) (hts w (List.mem_filter.mp hw).1)
    · obtain ⟨scr, q1, q2, q3, q4, q5⟩ := hX
      refine ⟨scr, q1, q2, q3, ?_, ?_, ?_, hA b hbl⟩
      · show lx.length ≤ _; omega
      · show _ = Int32.ofNat lx.length; rw [q4, hlx]
      · intro j hj; have hj : j < lx.length := hj; rw [q5 j (by omega), ← hlv j (by omega)]
    · show lx.length ≤ 100000; omega
  have hl := lv_entry ([.ref b]) (n := 7) (Nat.le_of_ble_eq_true rfl)
  rw [lg_entry_eq]
  have hlx5 : lx.length ≤ 1538 := by omega
  exact law_walk l hst ((dC, dI), (fun k => match k with | 0 => ca0 | 1 => ca1 | 2 => ca2 | _ => ca3), (fun k => match k with | 0 => t0 | 1 => t1 | 2 => t2 | _ => t3), (b, lx)) fx hr hlx5 s.heap [] _ (fun k q h => by simp at h) ⟨fun i j p q h => by simp at h, fun k q h => by simp at h⟩ va_S.rf hl
theorem hst_of {l : Launch} (h : l.flags = flags0) : l.stackTraces = false := by
  unfold Launch.stackTraces
  rw [h]
  decide +kernel
set_option maxHeartbeats 4000000 in
theorem lw_walk (l : Launch) (hst : l.stackTraces = false) (b : Addr) (xs : List Int32) : MetFree l x (headSpec (Jvm.Cond.code x code maxLocals ret :: tables_1) room_1) (lw_P b xs) (fun _ _ _ _ _ => True) lw_Q := by
  refine MetFree.of_bodyS (code := code) (maxLocals := maxLocals) (ret := ret) (by decide) ?_ ?_
  · intro args s m h hn
    obtain ⟨meth, c, h1, h2, h3, h4, h5, h6, -, -⟩ := Cond.code_spec hn (atoms_spec (ws := Jvm.Cond.code x code maxLocals ret :: tables_1) h _ List.mem_cons_self)
    exact ⟨meth, c, h1, h2, h3, h4, h5, h6⟩
  · intro p e s m args below meth c s₁ B hml0 hP _
    obtain ⟨rfl, hx, hbd, hgv⟩ := hP
    obtain ⟨scr, harrAt, hlist, hof, hsmall⟩ := hx
    obtain ⟨hcb, hkn, -, -⟩ := State.arrayAt?_spec harrAt
    have hown : s.vm.findClass R_law = some m.cls := findClass_of_methodNamed B.named
    have hts0 : ∀ c ∈ (Jvm.Cond.code x code maxLocals ret :: tables_1), c.before #[Value.ref b] s = true := atoms_spec (ws := Jvm.Cond.code x code maxLocals ret :: tables_1) B.pre
    have hts : ∀ w ∈ lw_tbl, w.before #[Value.ref b] s = true := k2_hts_sels lw_privs (fun w hw => hts0 w (List.mem_cons_of_mem _ hw)) lw_privs_ok
    have hml : c.maxLocals = 7 := B.maxLocals_eq (hts0 _ List.mem_cons_self)
    have X₀ : Stand p l e room_1 s m #[Value.ref b] below meth c s₁ [] 0 0 := Stand.of_body B
    have hh0 : s₁.heap = s.heap := by rw [B.state]; rfl
    have hsz : scr.slots.size = xs.length := by rw [← Array.length_toList, hlist, List.length_map]
    have hval : ∀ j : Nat, j < xs.length → scr.slots[j]? = some (.int (xs.getD j 0)) := fun j hj => by
      rw [← Array.getElem?_toList, hlist]
      simp [hj]
    have hbl : b < s.heap.size := (Array.getElem?_eq_some_iff.mp hcb).1
    have hX : va_X b xs.length (fun j => xs.getD j 0) s s.heap := ⟨scr, hcb, hof, hkn, hsz, hval⟩
    have K : W p l e room_1 s m #[Value.ref b] below meth c s₁.heap [] 0 0 (lw_Z below #[Value.ref b] s) (entryFrame m ([Value.ref b] : List Value).toArray 7) := by
      rw [hh0]
      exact whole_start l hst hbd ⟨B.exec, B.bytes, B.returns, hml, hown, hts, hX, hbl, B.notSynchronized, hgv⟩
    obtain ⟨t, a1, o, b1, b2, b3⟩ := K s₁ rfl X₀
    exact ⟨t, o, a1, b1, b2, b3⟩
theorem lw_pre_spec {args : Array Value} {s : State} (h : (Jvm.Cond.and given_1 narrow_1).before args s = true) (hr : rest_1_c.before args s = true) : ∃ (b : Addr) (xs : List Int32), lw_P b xs args s := by
  have hs := flat_of_before _ h
  have hq := flat_of_before _ hr
  have hc : (Cond.count 1).before args s = true := hs _ (by decide +kernel)
  have harr : (Cond.arrayOf (.arg 0) .int).before args s = true := hs _ (by decide +kernel)
  have hle : (Cond.le (.length (.arg 0)) (.int 1538)).before args s = true := hs _ (by decide +kernel)
  have hlen : (Cond.isInt (.length (.arg 0))).before args s = true := hq _ (by decide +kernel)
  have hall : (Cond.all (.arg 0) (.isInt (.elem (.arg 0) (.index 0)))).before args s = true := hq _ (by decide +kernel)
  obtain ⟨b, xs, hb, hx⟩ := State.ints_of_pre rfl harr hlen hall
  have hsm : xs.length < 2 ^ 31 := hx.choose_spec.2.2.2
  have hev : (Term.length (.arg 0)).eval args s none [] s = some (.int xs.length.toInt32) := hx.length_eval hb
  have hv := Cond.le_ints hev (show (Term.int 1538).eval args s none [] s = some (.int 1538) from rfl)
  have hd : xs.length.toInt32 ≤ 1538 := by
    simpa [Cond.before, Cond.holds, hv] using hle
  have hN : xs.length ≤ 1538 := (Int32.ofNat_le_ofNat hsm (by decide)).mp (show Int32.ofNat xs.length ≤ Int32.ofNat 1538 from hd)
  exact ⟨b, xs, Cond.one_arg hc (show args[0]? = some (.ref b) from hb), hx, hN, h⟩
theorem lw_comes (l : Launch) (hst : l.stackTraces = false) : Comes l x (Jvm.Cond.code x code maxLocals ret :: tables_1) room_1 (fun tb e args s => Calls_1 tb e args s ∧ rest_1 tb e args s ∧ Pre_1 tb e args s)
    (fun _ _ args s o t => lw_Q args s o t) := by
  intro p e ha hc hk s m args below hf hfit hheap happ hpre
  obtain ⟨b, xs, hP⟩ := lw_pre_spec hpre.2.2 hpre.2.1
  obtain ⟨k, o, h1, h2, h3, hQ⟩ := lw_walk l hst b xs p e ha hc hk s m args below hf ((Spec.applies_iff_loose hf).mp happ).1 hP trivial
  exact ⟨k, o, h1, h2, h3, hQ⟩
theorem lw_frame {s t : State} {o : Outcome} {args : Array Value} (h : Framed s o t [] 601024 7293000) :
    Framed s o t (fieldLocs frame_1_writes args s ++ arrayLocs frame_1_arrays args s ++ staticLocs frame_1_statics s) 601024 7293000 := h
theorem lw_limb (L : Cond) (hL : ∀ (args : Array Value) (s t : State), L.after args s (.returned (some (.int 1))) t = true) :
    ArmFor flags0 classFile x code maxLocals ret World_1 tables_1 room_1 Calls_1 rest_1 Pre_1
      (fun tb e a s o t => postC L tb e a s o t ∧ Framed s o t (fieldLocs frame_1_writes a s ++ arrayLocs frame_1_arrays a s ++ staticLocs frame_1_statics s) 601024 7293000) := by
  intro l hfl _ _ p e ha hc hk s m args below hf hfit hheap happ hpre
  obtain ⟨k, o, h1, h2, h3, rfl, hF⟩ := lw_comes l (hst_of hfl) p e ha hc hk s m args below hf hfit hheap happ hpre
  exact ⟨k, _, h1, h2, h3, hL args s _, lw_frame hF⟩
theorem i_vc : Claimed_1_1 ∧ Claimed_1_2 := ⟨lw_limb limb_1_1 (fun args s t => by simp [limb_1_1, Cond.after, Cond.holds, Cond.value]), lw_limb limb_1_2 (fun args s t => Cond.after_iff.mpr (by
  first | (rw [show limb_1_2 = Cond.eq .result (.int 1) from rfl, Cond.eq_ints (x := 1) (y := 1) rfl rfl]; simp; done) | (simp [limb_1_2, Cond.value, Term.eval]; done)))⟩
