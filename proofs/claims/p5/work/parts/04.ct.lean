/-! CONTRACTS in one form: from the world w0 and the arguments av, the answer v and the world w behind it are such that 'Po v w'; nothing else changes. -/
def cPre (g : GG) (w0 : va_W) (sz : Nat) (U : State) : Prop := U.heap.size = sz ∧ va_P g.1 vwCl w0 U.heap ∧ va_K g.1 vwCl (tyL g) U ∧ va_D (fun _ => True) w0 ∧ sg g (va_A w0 sz) U U.heap
def cQ (g : GG) (Po : Option Value → va_W → Prop) (A : Nat → Prop) : Array Value → State → Outcome → State → Prop := fun _ st oc t => (∃ (v : Option Value) (w : va_W), oc = .returned v ∧ Po v w ∧ va_P g.1 vwCl w t.heap ∧ va_D A w) ∧ va_F A st t
/-- tables may be arguments too: they lie outside of what a callee may change -/
def Ct (l : Launch) (g : GG) (y : MethodName) (cw : List Cond) (rm : Room) (av : List Value) (w0 : va_W) (Po : Option Value → va_W → Prop) : Prop :=
  ∀ sz : Nat, Met l y cw rm (va_Pc av (cPre g w0 sz)) (cQ g Po (va_A w0 sz)) rm.cells rm.slots (va_A w0 sz)
section CtLayer
variable {p : Program} {l : Launch} {e : Env} {R : Room} {s : State} {m : MethodId} {args : Array Value} {below : List Frame} {meth : Method} {c : Code} {cc : ByteArray} {nL : Nat} {own : String} {g : GG} {A : Nat → Prop} {Q : State → Prop} {ws : va_W} {cells slots : Nat} {lv : List (Nat × Value)} {pc pn : Nat} {st : List Value}
  {y : MethodName} {rm : Room} {av : List Value} {w0 : va_W} {Po : Option Value → va_W → Prop} {bytes : ByteArray} {maxL : Nat} {ret : Option FieldType}
theorem Ct_of (hy : plainName y.cls = true) (hav : (lg_sl av).length ≤ maxL)
    (body : ∀ (p : Program) (e : Env) (s : State) (m : MethodId) (args : Array Value) (below : List Frame) (meth : Method) (c : Code) (A : Nat → Prop), Fx p s m args meth c bytes maxL y.cls g A → meth.sig.returnType = ret → meth.name = y.name →
      V p l e rm s m args below meth c maxL g A (MQ below (cQ g Po A) args s rm.cells rm.slots A) w0 0 0 (lv_args 0 av) 0 []) : Ct l g y (wM y bytes maxL ret) rm av w0 Po := by
  intro sz
  refine Met.ofW (cc := bytes) (maxL := maxL) (ret := ret) hy rfl ?_
  intro p e s m args below meth c s₁ B hml hv
  obtain ⟨rfl, hsz, hP, hK, hD0, hG⟩ := hv
  have hown : s.vm.findClass y.cls = some m.cls := findClass_of_methodNamed B.named
  have hts := atoms_spec (ws := wM y bytes maxL ret) B.pre
  subst hsz
  have hD := hD0.self (sz := s.heap.size)
  rw [lg_entry_eq]
  exact body p e s m _ below meth c (va_A w0 s.heap.size) ⟨B.exec, B.bytes, hml, hown, fun w hw => hts w (List.mem_cons_of_mem _ hw), hK, fun q h => Or.inr h, B.notSynchronized, hG⟩ B.returns (name_of_methodNamed B.named B.method).1 s.heap [] _ hP hD va_S.rf (lv_entry av hav)
theorem Ct.blind (g : GG) (av : List Value) (w0 : va_W) (sz : Nat) : FrameBlind (va_Pc av (cPre g w0 sz)) := by
  intro a U f mk q
  obtain ⟨q0, q1, qP, qK, qD, qG⟩ := q
  exact ⟨q0, q1, qP, va_K.moved (u := U) (U := U.calling f mk a) (Vm.Alike.refl U.vm) qK, qD, sg_same (u := U) (U := U.calling f mk a) rfl qG⟩
def okCR (isC isR : List Nat) : Bool := va_nd isC && va_nd isR && isR.all (fun i => !isC.contains i)
theorem okCR_of {isC isR : List Nat} (h : okCR isC isR = true) : va_nd isC = true ∧ va_nd isR = true ∧ ∀ i ∈ isR, i ∉ isC := by
  unfold okCR at h
  rw [Bool.and_eq_true, Bool.and_eq_true] at h
  refine ⟨h.1.1, h.1.2, fun i hi hc => ?_⟩
  have h2 := List.all_eq_true.mp h.2 i hi
  simp [hc] at h2
/-- behind a call: the rest of the world is as it was -/
theorem v_back (fx : Fx p s m args meth c cc nL own g A) (isC isR : List Nat) {wc wr : va_W} {a : Array Value} {rest : List Value} (hC : isC.map (fun i => ws[i]?) = wc.map some) (hR : isR.map (fun i => ws[i]?) = wr.map some) (hok : okCR isC isR = true)
    (hrun : ∀ (H : Heap) (locs : List Loc) (ls : Array Slot), (∀ U : State, U.heap = H → s.WarmedH U.vm → cPre g wc H.size U) → va_P g.1 vwCl wc H → lv_has ls nL lv → va_Run p l e R s m args below meth c H locs cells slots rm.cells rm.slots (F0 m pc ls st) rest (cQ g Po (va_A wc H.size) a) (va_A wc H.size)) (hpn : pc + 3 = pn)
    (k : ∀ (v : Option Value) (w : va_W), Po v w → V p l e R s m args below meth c nL g A Q (wr ++ w) (cells + rm.cells) (slots + rm.slots) lv pn (v.toList ++ rest)) : V p l e R s m args below meth c nL g A Q ws cells slots lv pc st := by
  subst hpn
  obtain ⟨hnC, hn, hdis⟩ := okCR_of hok
  intro H locs ls hP hD hS hl
  have hPc := hP.sub isC (vv_fm _ _ _ hC)
  have hDc := hD.sub isC hnC hC
  have hFc := va_free (wc := wc) hD hS fx.hA isC hC
  have hpre : ∀ U : State, U.heap = H → s.WarmedH U.vm → cPre g wc H.size U := fun U hU hW => ⟨by rw [hU], by rw [hU]; exact hPc, va_K.moved hW.alike fx.hK, hDc.weaken (fun _ _ _ _ => trivial), by rw [hU]; exact sg_callee hW fx.hsg hS hFc⟩
  intro T hT X
  obtain ⟨v, st₀, t, T', L, h0, X', hL, e1, e2, ⟨⟨v2, w, hv, hp, hP1, hD1⟩, hz, hk⟩, stp⟩ := hrun H locs ls hpre hPc hl T hT X
  cases hv
  rw [h0] at hz hk
  rw [← e1] at hP1 hz hk
  obtain ⟨hPj, hDj⟩ := va_join (wr := wr) (w1 := w) hP hD isC isR hC hR hn hdis hk hFc hP1 hD1
  have hSj : va_S A s.heap T'.heap (locs ++ L) := ⟨Nat.le_trans hS.1 hz, fun q h1 h2 => by rw [hk q (Nat.lt_of_lt_of_le h1 hS.1) (fun z => h2 (hFc q z))]; exact hS.2.1 q h1 h2, fun q hq => by
      rcases List.mem_append.mp hq with h | h
      · exact hS.2.2 q h
      · exact hFc _ (hL q h)⟩
  obtain ⟨t2, a1, b1⟩ := k v w hp T'.heap (locs ++ L) ls hPj hDj hSj hl T' rfl X'
  exact ⟨t2, stp t2 a1, b1⟩
/-- of a method that is called: not of method handles; so many parameters -/
def yOk (y : MethodName) (n : Nat) : Bool := decide (y.cls ≠ "java/lang/invoke/MethodHandle") && decide (y.cls ≠ "java/lang/invoke/VarHandle") && decide ((parseMethodDescriptor y.desc).map (fun d => d.parameters.length) = some n)
theorem yOk_of {y : MethodName} {n : Nat} (h : yOk y n = true) : y.cls ≠ "java/lang/invoke/MethodHandle" ∧ y.cls ≠ "java/lang/invoke/VarHandle" ∧ (parseMethodDescriptor y.desc).map (fun d => d.parameters.length) = some n := by
  unfold yOk at h
  simp only [Bool.and_eq_true, decide_eq_true_eq] at h
  exact ⟨h.1.1, h.1.2, h.2⟩
theorem v_callV (fx : Fx p s m args meth c cc nL own g A) (isC isR : List Nat) (wc wr : va_W) {b index ci : Nat} {fs As rest : List Value} {q1 : vw_C} (n qb : Nat) (hM : Ct l g y (wM y bytes maxL ret) rm (.ref b :: As) wc Po) (hdg : decode cc pc = .ok (.invokevirtual index, 3)) (hlk : Cond.methodLink own index y ∈ wT) (hin : Cond.instanceMethod y ∈ wT) (hse : Cond.selects y.cls y y ∈ wT) (hini : Cond.initialized y.cls ∈ wT) (hcode : Cond.code y bytes maxL ret ∈ wT) (hy : yOk y n = true)
    (hC : isC.map (fun i => ws[i]?) = wc.map some) (hR : isR.map (fun i => ws[i]?) = wr.map some) (hok : okCR isC isR = true) (hcl : vwCl[ci]? = some q1) (hqC : q1.1 = y.cls) (hb : wc[qb]? = some (b, .inr (ci, fs))) (hlen : As.length = n) (hst : st = As.reverse ++ .ref b :: rest) (hcat : (rest.map fun v => v.category).sum ≤ 8) (hRm : rm.frames + 1 ≤ R.frames ∧ 8 + (maxL + 11) + rm.locals ≤ R.locals) (hf : cells + rm.cells ≤ R.cells ∧ slots + rm.slots ≤ R.slots) (hpn : pc + 3 = pn)
    (k : ∀ (v : Option Value) (w : va_W), Po v w → V p l e R s m args below meth c nL g A Q (wr ++ w) (cells + rm.cells) (slots + rm.slots) lv pn (v.toList ++ rest)) : V p l e R s m args below meth c nL g A Q ws cells slots lv pc st :=
  v_back fx isC isR hC hR hok (fun H locs ls hpre hPc hl => va_runV (g := F0 m pc ls st) (C := y.cls) (As := As) (rest := rest) fx.fix (hM H.size) ⟨callB_of n fx.hts (wM_good hcode) rfl rfl rfl (fx.hts _ hini) (fx.hts _ hlk) (yOk_of hy) hRm, fx.hts _ hin, fx.hts _ hse⟩ ⟨Ct.blind g _ wc H.size, by have := va_recv fx.hK hPc hcl hb; rw [hqC] at this; exact this, fun U hU hW => ⟨rfl, hpre U hU hW⟩⟩ rfl hlen hl.1 hst (lv_room hcat) hdg hf) hpn k
theorem v_callS (fx : Fx p s m args meth c cc nL own g A) (isC isR : List Nat) (wc wr : va_W) {index : Nat} {As rest : List Value} (n : Nat) (hM : Ct l g y (wM y bytes maxL ret) rm As wc Po) (hdg : decode cc pc = .ok (.invokestatic index, 3)) (hlk : Cond.methodLink own index y ∈ wT) (hstt : Cond.static y ∈ wT) (hini : Cond.initialized y.cls ∈ wT) (hcode : Cond.code y bytes maxL ret ∈ wT) (hy : yOk y n = true)
    (hC : isC.map (fun i => ws[i]?) = wc.map some) (hR : isR.map (fun i => ws[i]?) = wr.map some) (hok : okCR isC isR = true) (hlen : As.length = n) (hst : st = As.reverse ++ rest) (hcat : (rest.map fun v => v.category).sum ≤ 8) (hRm : rm.frames + 1 ≤ R.frames ∧ 8 + (maxL + 11) + rm.locals ≤ R.locals) (hf : cells + rm.cells ≤ R.cells ∧ slots + rm.slots ≤ R.slots) (hpn : pc + 3 = pn)
    (k : ∀ (v : Option Value) (w : va_W), Po v w → V p l e R s m args below meth c nL g A Q (wr ++ w) (cells + rm.cells) (slots + rm.slots) lv pn (v.toList ++ rest)) : V p l e R s m args below meth c nL g A Q ws cells slots lv pc st :=
  v_back fx isC isR hC hR hok (fun H locs ls hpre hPc hl => va_runS (g := F0 m pc ls st) (As := As) (rest := rest) fx.fix (hM H.size) ⟨callB_of n fx.hts (wM_good hcode) rfl rfl rfl (fx.hts _ hini) (fx.hts _ hlk) (yOk_of hy) hRm, fx.hts _ hstt⟩ ⟨Ct.blind g _ wc H.size, fun U hU hW => ⟨rfl, hpre U hU hW⟩⟩ rfl hlen hl.1 hst (lv_room hcat) hdg hf) hpn k
theorem v_callSN (fx : Fx p s m args meth c cc nL own g A) (isC isR : List Nat) (wc wr : va_W) {index : Nat} {host : String} {As rest : List Value} (n : Nat) (hM : Ct l g y (wM y bytes maxL ret) rm As wc Po) (hdg : decode cc pc = .ok (.invokestatic index, 3)) (hlk : Cond.methodLinkNest own index y host ∈ wN) (hstt : Cond.static y ∈ wT) (hini : Cond.initialized y.cls ∈ wT) (hcode : Cond.code y bytes maxL ret ∈ wT) (hy : yOk y n = true)
    (hC : isC.map (fun i => ws[i]?) = wc.map some) (hR : isR.map (fun i => ws[i]?) = wr.map some) (hok : okCR isC isR = true) (hlen : As.length = n) (hst : st = As.reverse ++ rest) (hcat : (rest.map fun v => v.category).sum ≤ 8) (hRm : rm.frames + 1 ≤ R.frames ∧ 8 + (maxL + 11) + rm.locals ≤ R.locals) (hf : cells + rm.cells ≤ R.cells ∧ slots + rm.slots ≤ R.slots) (hpn : pc + 3 = pn)
    (k : ∀ (v : Option Value) (w : va_W), Po v w → V p l e R s m args below meth c nL g A Q (wr ++ w) (cells + rm.cells) (slots + rm.slots) lv pn (v.toList ++ rest)) : V p l e R s m args below meth c nL g A Q ws cells slots lv pc st :=
  v_back fx isC isR hC hR hok (fun H locs ls hpre hPc hl => va_runSN (g := F0 m pc ls st) (As := As) (rest := rest) fx.fix (hM H.size) ⟨va_cnB n fx.hts (wM_good hcode) rfl rfl rfl (fx.hsg.2.1 _ hlk) (fx.hts _ hini) (yOk_of hy) hRm, fx.hts _ hstt, trivial⟩ ⟨Ct.blind g _ wc H.size, fun U hU hW => ⟨rfl, hpre U hU hW⟩⟩ rfl hlen hl.1 hst (lv_room hcat) hdg hf) hpn k
theorem v_callI (fx : Fx p s m args meth c cc nL own g A) (isC isR : List Nat) (wc wr : va_W) {b index : Nat} {As rest : List Value} (n : Nat) (hM : Ct l g y (wM y bytes maxL none) rm (.ref b :: As) wc Po) (hdg : decode cc pc = .ok (.invokespecial index, 3)) (hlk : Cond.methodLink own index y ∈ wT) (hin : Cond.instanceMethod y ∈ wT) (hy1 : y.name = "<init>") (hini : Cond.initialized y.cls ∈ wT) (hcode : Cond.code y bytes maxL none ∈ wT) (hy : yOk y n = true)
    (hC : isC.map (fun i => ws[i]?) = wc.map some) (hR : isR.map (fun i => ws[i]?) = wr.map some) (hok : okCR isC isR = true) (hlen : As.length = n) (hst : st = As.reverse ++ .ref b :: rest) (hcat : (rest.map fun v => v.category).sum ≤ 8) (hRm : rm.frames + 1 ≤ R.frames ∧ 8 + (maxL + 11) + rm.locals ≤ R.locals) (hf : cells + rm.cells ≤ R.cells ∧ slots + rm.slots ≤ R.slots) (hpn : pc + 3 = pn)
    (k : ∀ (v : Option Value) (w : va_W), Po v w → V p l e R s m args below meth c nL g A Q (wr ++ w) (cells + rm.cells) (slots + rm.slots) lv pn (v.toList ++ rest)) : V p l e R s m args below meth c nL g A Q ws cells slots lv pc st :=
  v_back fx isC isR hC hR hok (fun H locs ls hpre hPc hl => va_runI (g := F0 m pc ls st) (As := As) (rest := rest) fx.fix (hM H.size) ⟨callB_of n fx.hts (wM_good hcode) rfl rfl rfl (fx.hts _ hini) (fx.hts _ hlk) (yOk_of hy) hRm, hy1, fx.hts _ hin⟩ ⟨Ct.blind g _ wc H.size, fun U hU hW => ⟨rfl, hpre U hU hW⟩⟩ rfl hlen hl.1 hst (lv_room hcat) hdg hf) hpn k
theorem v_callIN (fx : Fx p s m args meth c cc nL own g A) (isC isR : List Nat) (wc wr : va_W) {b index : Nat} {host : String} {As rest : List Value} (n : Nat) (hM : Ct l g y (wM y bytes maxL none) rm (.ref b :: As) wc Po) (hdg : decode cc pc = .ok (.invokespecial index, 3)) (hlk : Cond.methodLinkNest own index y host ∈ wN) (hin : Cond.instanceMethod y ∈ wT) (hy1 : y.name = "<init>") (hini : Cond.initialized y.cls ∈ wT) (hcode : Cond.code y bytes maxL none ∈ wT) (hy : yOk y n = true)
    (hC : isC.map (fun i => ws[i]?) = wc.map some) (hR : isR.map (fun i => ws[i]?) = wr.map some) (hok : okCR isC isR = true) (hlen : As.length = n) (hst : st = As.reverse ++ .ref b :: rest) (hcat : (rest.map fun v => v.category).sum ≤ 8) (hRm : rm.frames + 1 ≤ R.frames ∧ 8 + (maxL + 11) + rm.locals ≤ R.locals) (hf : cells + rm.cells ≤ R.cells ∧ slots + rm.slots ≤ R.slots) (hpn : pc + 3 = pn)
    (k : ∀ (v : Option Value) (w : va_W), Po v w → V p l e R s m args below meth c nL g A Q (wr ++ w) (cells + rm.cells) (slots + rm.slots) lv pn (v.toList ++ rest)) : V p l e R s m args below meth c nL g A Q ws cells slots lv pc st :=
  v_back fx isC isR hC hR hok (fun H locs ls hpre hPc hl => va_runIN (g := F0 m pc ls st) (As := As) (rest := rest) fx.fix (hM H.size) ⟨va_cnB n fx.hts (wM_good hcode) rfl rfl rfl (fx.hsg.2.1 _ hlk) (fx.hts _ hini) (yOk_of hy) hRm, hy1, fx.hts _ hin⟩ ⟨Ct.blind g _ wc H.size, fun U hU hW => ⟨rfl, hpre U hU hW⟩⟩ rfl hlen hl.1 hst (lv_room hcat) hdg hf) hpn k
-- ends
theorem v_iret (fx : Fx p s m args meth c cc nL own g A) {mc ms : Nat} {v : Int32} (w : va_W) (is : List Nat) (hr : meth.sig.returnType = some .int) (hdg : decode cc pc = .ok (.ireturn, 1)) (hn : va_nd is = true) (his : is.map (fun i => ws[i]?) = w.map some) (hc : cells ≤ mc) (hs : slots ≤ ms) (hu : Po (some (.int v)) w) : V p l e R s m args below meth c nL g A (MQ below (cQ g Po A) args s mc ms A) ws cells slots lv pc [.int v] :=
  fun H locs ls hP hD hS hl => W.widen hc hs (W.iret (v := v) fx.hx fx.hb hr (fun t ht hW => ⟨⟨_, w, rfl, hu, by rw [ht]; exact hP.sub is (vv_fm _ _ _ his), hD.sub is hn his⟩, hS.F ht⟩) hS.2.2 hdg fx.hlk)
theorem v_zret (fx : Fx p s m args meth c cc nL own g A) {mc ms : Nat} {v : Int32} (w : va_W) (is : List Nat) (hr : meth.sig.returnType = some .boolean) (hdg : decode cc pc = .ok (.ireturn, 1)) (hnar : narrow .boolean (.int v) = .int v) (hn : va_nd is = true) (his : is.map (fun i => ws[i]?) = w.map some) (hc : cells ≤ mc) (hs : slots ≤ ms) (hu : Po (some (.int v)) w) : V p l e R s m args below meth c nL g A (MQ below (cQ g Po A) args s mc ms A) ws cells slots lv pc [.int v] :=
  fun H locs ls hP hD hS hl => W.widen hc hs (W.zret (v := v) fx.hx fx.hb hr hnar (fun t ht hW => ⟨⟨_, w, rfl, hu, by rw [ht]; exact hP.sub is (vv_fm _ _ _ his), hD.sub is hn his⟩, hS.F ht⟩) hS.2.2 hdg fx.hlk)
theorem v_aret (fx : Fx p s m args meth c cc nL own g A) {mc ms : Nat} {a : Nat} {rt : FieldType} (w : va_W) (is : List Nat) (hr : meth.sig.returnType = some rt) (hrt : (∃ n, rt = .object n) ∨ ∃ t, rt = .array t) (hdg : decode cc pc = .ok (.areturn, 1)) (hn : va_nd is = true) (his : is.map (fun i => ws[i]?) = w.map some) (hc : cells ≤ mc) (hs : slots ≤ ms) (hu : Po (some (.ref a)) w) : V p l e R s m args below meth c nL g A (MQ below (cQ g Po A) args s mc ms A) ws cells slots lv pc [.ref a] :=
  fun H locs ls hP hD hS hl => W.widen hc hs (W.aret (v := .ref a) fx.hx fx.hb hr hrt (Or.inr ⟨a, rfl⟩) (fun t ht hW => ⟨⟨_, w, rfl, hu, by rw [ht]; exact hP.sub is (vv_fm _ _ _ his), hD.sub is hn his⟩, hS.F ht⟩) hS.2.2 hdg fx.hlk)
theorem v_vret (fx : Fx p s m args meth c cc nL own g A) {mc ms : Nat} (w : va_W) (is : List Nat) (hr : meth.sig.returnType = none) (hdg : decode cc pc = .ok (.return_, 1)) (hn : va_nd is = true) (his : is.map (fun i => ws[i]?) = w.map some) (hc : cells ≤ mc) (hs : slots ≤ ms) (hu : Po none w) : V p l e R s m args below meth c nL g A (MQ below (cQ g Po A) args s mc ms A) ws cells slots lv pc [] :=
  fun H locs ls hP hD hS hl => W.widen hc hs (W.vret fx.hx fx.hb hr (fun t ht hW => ⟨⟨_, w, rfl, hu, by rw [ht]; exact hP.sub is (vv_fm _ _ _ his), hD.sub is hn his⟩, hS.F ht⟩) hS.2.2 hdg fx.hlk)
theorem v_mmax (fx : Fx p s m args meth c cc nL own g A) {index : Nat} {a b : Int} (z : Int) (ha : -2147483648 ≤ a ∧ a < 2147483648) (hb : -2147483648 ≤ b ∧ b < 2147483648) (hz : (if a < b then b else a) = z) (h1 : Cond.methodLink own index Lib.Math.max.name ∈ wT) (h2 : Cond.static Lib.Math.max.name ∈ wT) (h3 : Cond.initialized "java/lang/Math" ∈ wT) (h4 : Cond.code Lib.Math.max.name Lib.Math.max.code 2 (some .int) ∈ wT) (hdg : decode cc pc = .ok (.invokestatic index, 3)) (hcat : (st.map fun v => v.category).sum ≤ 8) (hf : 1 ≤ R.frames) (hlo : 21 ≤ R.locals) (hc : cells ≤ R.cells) (hs : slots ≤ R.slots) (hpn : pc + 3 = pn) (k : V p l e R s m args below meth c nL g A Q ws cells slots lv pn (.int (iI z) :: st)) : V p l e R s m args below meth c nL g A Q ws cells slots lv pc (.int (iI b) :: .int (iI a) :: st) := by
  subst hpn
  intro H locs ls hP hD hS hl
  refine va_mmax fx.hx fx.hb (fx.hml.trans hl.1.symm) fx.hown (fx.hts _ h1) (fx.hts _ h2) (fx.hts _ h3) (fx.hts _ h4) hf (by omega) hc hs hdg ?_
  have e : (if iI a < iI b then iI b else iI a) = iI z := by
    rw [← hz]
    by_cases h : a < b
    · rw [if_pos h, if_pos ((iI_lt (by omega) (by omega)).mpr h)]
    · rw [if_neg h, if_neg (mt (iI_lt (by omega) (by omega)).mp h)]
  rw [e]
  exact k H locs ls hP hD hS hl
theorem v_mmin (fx : Fx p s m args meth c cc nL own g A) {index : Nat} {a b : Int} (z : Int) (ha : -2147483648 ≤ a ∧ a < 2147483648) (hb : -2147483648 ≤ b ∧ b < 2147483648) (hz : (if b < a then b else a) = z) (h1 : Cond.methodLink own index Lib.Math.min.name ∈ wT) (h2 : Cond.static Lib.Math.min.name ∈ wT) (h3 : Cond.initialized "java/lang/Math" ∈ wT) (h4 : Cond.code Lib.Math.min.name Lib.Math.min.code 2 (some .int) ∈ wT) (hdg : decode cc pc = .ok (.invokestatic index, 3)) (hcat : (st.map fun v => v.category).sum ≤ 8) (hf : 1 ≤ R.frames) (hlo : 21 ≤ R.locals) (hc : cells ≤ R.cells) (hs : slots ≤ R.slots) (hpn : pc + 3 = pn) (k : V p l e R s m args below meth c nL g A Q ws cells slots lv pn (.int (iI z) :: st)) : V p l e R s m args below meth c nL g A Q ws cells slots lv pc (.int (iI b) :: .int (iI a) :: st) := by
  subst hpn
  intro H locs ls hP hD hS hl
  refine va_mmin fx.hx fx.hb (fx.hml.trans hl.1.symm) fx.hown (fx.hts _ h1) (fx.hts _ h2) (fx.hts _ h3) (fx.hts _ h4) hf (by omega) hc hs hdg ?_
  have e : (if iI b < iI a then iI b else iI a) = iI z := by
    rw [← hz]
    by_cases h : b < a
    · rw [if_pos h, if_pos ((iI_lt (by omega) (by omega)).mpr h)]
    · rw [if_neg h, if_neg (mt (iI_lt (by omega) (by omega)).mp h)]
  rw [e]
  exact k H locs ls hP hD hS hl
/-- System.arraycopy of a whole row of a primitive kind into a longer one, from 0 on -/
theorem v_copy (fx : Fx p s m args meth c cc nL own g A) {index : Nat} (q0 q1 t0 : Nat) {a a0 : Nat} {cA : ClassId} {n0 n1 : Nat} {f f1 : Nat → Int32} {ty : FieldType} {n : Int} (wn : va_W) (h1 : Cond.methodLink own index arraycopyName ∈ wT) (h2 : Cond.native arraycopyName ∈ wT) (h3 : Cond.static arraycopyName ∈ wT) (h4 : Cond.initialized "java/lang/System" ∈ wT)
    (ha0 : ws[q0]? = some (a0, .inl (cA, n0, .inl f))) (ha1 : ws[q1]? = some (a, .inl (cA, n1, .inl f1))) (ht0 : (tyL g)[t0]? = some (cA, ty)) (hprim : refKind ty = false) (hn : 0 ≤ n ∧ n ≤ n0 ∧ n ≤ n1 ∧ n < 2147483648) (hfit : ∀ i, i < n.toNat → fits ty (.int (f i)) = true) (hdg : decode cc pc = .ok (.invokestatic index, 3)) (hcat : (st.map fun v => v.category).sum ≤ 8) (hf : 1 ≤ R.frames) (hlo : 8 + (nativeFrameWords "java/lang/System" "arraycopy" 5 + 11) ≤ R.locals)
    (hw : ws.set q1 (a, .inl (cA, n1, .inl (va_cpy f f1 0 0 n.toNat))) = wn) (hpn : pc + 3 = pn) (k : V p l e R s m args below meth c nL g A Q wn cells slots lv pn st) : V p l e R s m args below meth c nL g A Q ws cells slots lv pc (.int (iI n) :: .int (iI 0) :: .ref a :: .int (iI 0) :: .ref a0 :: st) := by
  subst hpn; subst hw
  intro H locs ls hP hD hS hl
  have e0 : (iI 0).toNatClampNeg = 0 := by decide
  have en : (iI n).toNatClampNeg = n.toNat := iI_clamp (by omega)
  have hlt : ∀ z : Int, 0 ≤ z ∧ z < 2147483648 → ¬ iI z < 0 := fun z hz q => by
    rw [show (0 : Int32) = iI 0 from iI_0.symm, iI_lt (by omega) (by decide)] at q
    omega
  refine va_copyi fx.hx fx.hb (fx.hml.trans hl.1.symm) fx.hown (fx.hts _ h1) (fx.hts _ h2) (fx.hts _ h3) (fx.hts _ h4) fx.hK hP hD hS q0 q1 t0 t0 ha0 ha1 ht0 ht0 hprim (hlt 0 (by omega)) (hlt 0 (by omega)) (hlt n (by omega)) (by rw [e0, en]; omega) (by rw [e0, en]; omega) (fun i hi => by rw [e0, Nat.zero_add]; rw [en] at hi; exact hfit i hi) hf (by omega) hdg (fun H1 locs1 hP1 hD1 hS1 => ?_)
  rw [e0, en] at hP1 hD1
  exact k H1 locs1 ls hP1 hD1 hS1 hl
end CtLayer
