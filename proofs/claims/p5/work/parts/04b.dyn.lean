/-! CONTRACTS of methods that may grow their rows: how many cells and slots came is told with the answer -/
def cQE (g : GG) (Po : Option Value → va_W → Nat → Nat → Prop) (A : Nat → Prop) : Array Value → State → Outcome → State → Nat → Nat → Prop := fun _ st oc t kc ks => (∃ (v : Option Value) (w : va_W), oc = .returned v ∧ Po v w kc ks ∧ va_P g.1 vwCl w t.heap ∧ va_D A w) ∧ va_F A st t
def MQE (below : List Frame) (Qc : Array Value → State → Outcome → State → Nat → Nat → Prop) (a : Array Value) (s : State) (free : Addr → Prop) : State → Prop := fun t =>
  ∃ o, t.status = .running ∧ Ended t below o ∧ ∃ kc ks, Qc a s o t kc ks ∧ ∃ L, FrameEnd s o t L kc ks ∧ ∀ q ∈ L, free q.base
def MetE (l : Launch) (y : MethodName) (ws : List Cond) (rm : Room) (Pc : Array Value → State → Prop) (Qc : Array Value → State → Outcome → State → Nat → Nat → Prop) (free : Addr → Prop) : Prop :=
  MetFree l y (headSpec ws rm) Pc (fun _ _ _ _ _ => True) (fun a st o t => ∃ kc ks, Qc a st o t kc ks ∧ ∃ L, FrameEnd st o t L kc ks ∧ ∀ q ∈ L, free q.base)
def CtE (l : Launch) (g : GG) (y : MethodName) (cw : List Cond) (rm : Room) (av : List Value) (w0 : va_W) (Po : Option Value → va_W → Nat → Nat → Prop) : Prop :=
  ∀ sz : Nat, MetE l y cw rm (va_Pc av (cPre g w0 sz)) (cQE g Po (va_A w0 sz)) (va_A w0 sz)
def PostE (Qc : Array Value → State → Outcome → State → Nat → Nat → Prop) (free : Addr → Prop) : Pt → Array Value → Option Value → Pt → Prop := fun A a v B =>
  ∃ (g : JFrame) (mk : MethodId) (t : State) (L : List Loc) (kc ks : Nat), B.U.heap = t.heap ∧ B.U.vm = t.vm ∧ Qc a (A.U.calling g mk a) (.returned v) t kc ks ∧ B.locs = A.locs ++ L ∧ (∀ q ∈ L, free q.base) ∧ B.cells = A.cells + kc ∧ B.slots = A.slots + ks
def RunE (p : Program) (l : Launch) (e : Env) (R : Room) (s : State) (m : MethodId) (args : Array Value) (below : List Frame) (meth : Method) (c : Code) (H : Heap) (locs : List Loc) (cells slots : Nat) (g : JFrame) (rest : List Value) (Qa : State → Outcome → State → Nat → Nat → Prop) (free : Addr → Prop) : Prop :=
  ∀ T : State, T.heap = H → Stand p l e R s m args below meth c T locs cells slots → ∃ (v : Option Value) (st₀ t T' : State) (L : List Loc) (kc ks : Nat), st₀.heap = H ∧ Stand p l e R s m args below meth c T' (locs ++ L) (cells + kc) (slots + ks) ∧ (∀ q ∈ L, free q.base) ∧ T'.heap = t.heap ∧ T'.vm = t.vm ∧ Qa st₀ (.returned v) t kc ks ∧
    Goes p e below T g T' { g with pc := g.pc + 3, stack := v.toList ++ rest }
section CtELayer
variable {p : Program} {l : Launch} {e : Env} {R : Room} {s : State} {m : MethodId} {args : Array Value} {below : List Frame} {meth : Method} {c : Code} {cc : ByteArray} {nL : Nat} {own : String} {g : GG} {A : Nat → Prop} {Q : State → Prop} {ws : va_W} {cells slots : Nat} {lv : List (Nat × Value)} {pc pn : Nat} {st : List Value}
  {y : MethodName} {rm : Room} {av : List Value} {w0 : va_W} {Po : Option Value → va_W → Nat → Nat → Prop} {bytes : ByteArray} {maxL : Nat} {ret : Option FieldType}
theorem W_mono {H : Heap} {locs : List Loc} {Q' : State → Prop} {f : JFrame} (h : ∀ t, Q t → Q' t) (k : W p l e R s m args below meth c H locs cells slots Q f) : W p l e R s m args below meth c H locs cells slots Q' f := by
  intro T hT X
  obtain ⟨t, a, b⟩ := k T hT X
  exact ⟨t, a, h t b⟩
theorem CtE_of (hy : plainName y.cls = true) (hav : (lg_sl av).length ≤ maxL)
    (body : ∀ (p : Program) (e : Env) (s : State) (m : MethodId) (args : Array Value) (below : List Frame) (meth : Method) (c : Code) (A : Nat → Prop), Fx p s m args meth c bytes maxL y.cls g A → meth.sig.returnType = ret → meth.name = y.name →
      V p l e rm s m args below meth c maxL g A (MQE below (cQE g Po A) args s A) w0 0 0 (lv_args 0 av) 0 []) : CtE l g y (wM y bytes maxL ret) rm av w0 Po := by
  intro sz
  refine MetFree.of_bodyS (code := bytes) (maxLocals := maxL) (ret := ret) hy ?_ ?_
  · intro args s m h hn
    obtain ⟨meth, c, h1, h2, h3, h4, h5, h6, -, -⟩ := Cond.code_spec hn (atoms_spec (ws := wM y bytes maxL ret) h _ List.mem_cons_self)
    exact ⟨meth, c, h1, h2, h3, h4, h5, h6⟩
  · intro p e s m args below meth c s₁ B hml hv _
    have hh0 : s₁.heap = s.heap := by rw [B.state]; rfl
    obtain ⟨rfl, hsz, hP, hK, hD0, hG⟩ := hv
    have hown : s.vm.findClass y.cls = some m.cls := findClass_of_methodNamed B.named
    have hts := atoms_spec (ws := wM y bytes maxL ret) B.pre
    subst hsz
    have hD := hD0.self (sz := s.heap.size)
    have K := body p e s m _ below meth c (va_A w0 s.heap.size) ⟨B.exec, B.bytes, hml, hown, fun w hw => hts w (List.mem_cons_of_mem _ hw), hK, fun q h => Or.inr h, B.notSynchronized, hG⟩ B.returns (name_of_methodNamed B.named B.method).1 s.heap [] _ hP hD va_S.rf (lv_entry av hav)
    obtain ⟨t, a1, o, b1, b2, b3⟩ := K s₁ hh0 (Stand.of_body B)
    rw [lg_entry_eq]
    exact ⟨t, o, a1, b1, b2, b3⟩
theorem backE_of {ws' : List Cond} {Pc : Array Value → State → Prop} {Qc : Array Value → State → Outcome → State → Nat → Nat → Prop} {free : Addr → Prop} {len W9 : Nat}
    (hM : MetE l y ws' rm Pc Qc free) (hblind : FrameBlind Pc) (hframes : rm.frames + 1 ≤ R.frames) (hlocals : W9 + (maxL + 11) + rm.locals ≤ R.locals)
    (hws : ∀ w ∈ ws', ∀ a' U, s.WarmedH U.vm → w.before a' U = true) (hcode : Cond.code y bytes maxL ret ∈ ws') (hinit : ∀ a' U, s.WarmedH U.vm → (Cond.initialized y.cls).before a' U = true) :
    Back l R p e below s args y len W9 (PreOf R rm.cells rm.slots Pc) (PostE Qc free) := by
  refine Back.of_free (S := headSpec ws' rm) (P := Pc) (K := fun _ _ _ _ _ => True) (Q := fun a st o t => ∃ kc ks, Qc a st o t kc ks ∧ ∃ L, FrameEnd st o t L kc ks ∧ ∀ q ∈ L, free q.base) (bytes := bytes) (maxL := maxL) (ret := ret)
    (E := fun a st o t L k n => Qc a st o t k n ∧ ∀ q ∈ L, free q.base) hM hframes hlocals ?_ ?_ (fun _ _ _ _ _ _ _ _ _ => trivial) ?_ ?_
  · intro m meth c A a X hp
    exact ⟨atoms_intro fun w hw => hws w hw _ _ X.warmed, hws _ hcode _ _ X.warmed, hinit _ _ X.warmed, hp.1, hp.2.1⟩
  · intro m meth c A a g mk X hp
    exact hblind _ _ _ _ hp.2.2
  · intro a st o t ⟨kc, ks, hq, L, hF, hL⟩
    exact ⟨L, kc, ks, hF, hq, hL⟩
  · intro m meth c A a g mk v t L k n X hp hq hF ⟨e1, hL⟩
    exact ⟨g, mk, t, L, k, n, rfl, rfl, e1, rfl, hL, rfl, rfl⟩
theorem runVE {ws' : List Cond} {Pc : Array Value → State → Prop} {Qc : Array Value → State → Outcome → State → Nat → Nat → Prop} {free : Addr → Prop} {n index : Nat} {H : Heap} {locs : List Loc} {C : String} {b : Addr} {As rest : List Value} {f : JFrame}
    (S : CallFix p m c cc nL s args wT own) (hM : MetE l y ws' rm Pc Qc free) (hRm : rm.frames + 1 ≤ R.frames ∧ 8 + (maxL + 11) + rm.locals ≤ R.locals) (hG : GoodIn wT ws') (hcw : Cond.code y bytes maxL ret ∈ ws') (hini : (Cond.initialized y.cls).before args s = true) (hd : y.cls ≠ "java/lang/invoke/MethodHandle" ∧ y.cls ≠ "java/lang/invoke/VarHandle" ∧ (parseMethodDescriptor y.desc).map (fun d => d.parameters.length) = some n) (hl : (Cond.methodLink own index y).before args s = true) (hin : (Cond.instanceMethod y).before args s = true) (hse : (Cond.selects C y y).before args s = true) (hp : PreV s H C b Pc As)
    (hg : f.method = m) (hn : As.length = n) (hsize : f.locals.size = nL) (hstack : f.stack = As.reverse ++ .ref b :: rest) (hW : 2 * f.monitorRoom + (rest.map fun v => v.category).sum ≤ 8) (hdg : decode cc f.pc = .ok (.invokevirtual index, 3)) (hf : cells + rm.cells ≤ R.cells ∧ slots + rm.slots ≤ R.slots) :
    RunE p l e R s m args below meth c H locs cells slots f rest (Qc (Value.ref b :: As).toArray) free := by
  have hws := pay_in S.2.2.2.2 hG
  have hcode : (Cond.code y bytes maxL ret).before args s = true := S.2.2.2.2 _ (hG _ hcw).1
  have hK : Back l R p e below s args y 3 8 (PreOf R rm.cells rm.slots Pc) (PostE Qc free) := backE_of (bytes := bytes) (maxL := maxL) (ret := ret) hM hp.1 hRm.1 hRm.2 hws hcw (fun a' U hW => word_at hW (Or.inl (by first | rfl | simp [Cond.onTables, Cond.keeps, Cond.steady])) hini)
  obtain ⟨hx, hb, hml, ho, -⟩ := S
  obtain ⟨-, ⟨cellB, hcB, hoB, hclB⟩, hPc⟩ := hp
  intro T hT X
  obtain ⟨v, vm₁, ⟨U', l2, c2, s2⟩, hW₁, X', ⟨g', mk, t, L, kc, ks, e1, e2, hq, h1, hL, h2, h3⟩, st⟩ := callV X hx (C := C) (bytes := bytes) (maxL := maxL) (ret := ret) ho hl hin hse hcode ⟨hd.1, hd.2.1⟩ hK (by rw [hT]; exact hcB) hoB hclB hg (hsize.trans hml.symm) (argsL := As) (rest := rest) (fun sig h => hn.trans (by have h2 := hd.2.2; rw [h] at h2; exact (Option.some.inj h2).symm)) hstack hW (by rw [hb]; exact hdg)
    (fun vm₁ hW₁ => ⟨hf.1, hf.2, hPc (T.setVm vm₁) hT hW₁⟩)
  dsimp only [Pt.U, Pt.locs, Pt.cells, Pt.slots] at X' e1 e2 h1 h2 h3 st
  subst h1; subst h2; subst h3
  exact ⟨v, (T.setVm vm₁).calling g' mk (Value.ref b :: As).toArray, t, U', L, kc, ks, hT, X', hL, e1, e2, hq, st⟩
theorem v_callVE (fx : Fx p s m args meth c cc nL own g A) (isC isR : List Nat) (wc wr : va_W) {b index ci : Nat} {fs As rest : List Value} {q1 : vw_C} (n qb : Nat) (hM : CtE l g y (wM y bytes maxL ret) rm (.ref b :: As) wc Po) (hdg : decode cc pc = .ok (.invokevirtual index, 3)) (hlk : Cond.methodLink own index y ∈ wT) (hin : Cond.instanceMethod y ∈ wT) (hse : Cond.selects y.cls y y ∈ wT) (hini : Cond.initialized y.cls ∈ wT) (hcode : Cond.code y bytes maxL ret ∈ wT) (hy : yOk y n = true)
    (hC : isC.map (fun i => ws[i]?) = wc.map some) (hR : isR.map (fun i => ws[i]?) = wr.map some) (hok : okCR isC isR = true) (hcl : vwCl[ci]? = some q1) (hqC : q1.1 = y.cls) (hb : wc[qb]? = some (b, .inr (ci, fs))) (hlen : As.length = n) (hst : st = As.reverse ++ .ref b :: rest) (hcat : (rest.map fun v => v.category).sum ≤ 8) (hRm : rm.frames + 1 ≤ R.frames ∧ 8 + (maxL + 11) + rm.locals ≤ R.locals) (hf : cells + rm.cells ≤ R.cells ∧ slots + rm.slots ≤ R.slots) (hpn : pc + 3 = pn)
    (k : ∀ (v : Option Value) (w : va_W) (kc ks : Nat), Po v w kc ks → V p l e R s m args below meth c nL g A Q (wr ++ w) (cells + kc) (slots + ks) lv pn (v.toList ++ rest)) : V p l e R s m args below meth c nL g A Q ws cells slots lv pc st := by
  subst hpn
  obtain ⟨hnC, hn, hdis⟩ := okCR_of hok
  intro H locs ls hP hD hS hl
  have hPc := hP.sub isC (vv_fm _ _ _ hC)
  have hDc := hD.sub isC hnC hC
  have hFc := va_free (wc := wc) hD hS fx.hA isC hC
  have hpre : ∀ U : State, U.heap = H → s.WarmedH U.vm → cPre g wc H.size U := fun U hU hW => ⟨by rw [hU], by rw [hU]; exact hPc, va_K.moved hW.alike fx.hK, hDc.weaken (fun _ _ _ _ => trivial), by rw [hU]; exact sg_callee hW fx.hsg hS hFc⟩
  intro T hT X
  obtain ⟨v, st₀, t, T', L, kc, ks, h0, X', hL, e1, e2, ⟨⟨v2, w, hv, hp, hP1, hD1⟩, hz, hk⟩, stp⟩ := runVE (f := F0 m pc ls st) (C := y.cls) (As := As) (rest := rest) fx.fix (hM H.size) hRm (wM_good hcode) List.mem_cons_self (fx.hts _ hini) (yOk_of hy) (fx.hts _ hlk) (fx.hts _ hin) (fx.hts _ hse) ⟨Ct.blind g _ wc H.size, by have := va_recv fx.hK hPc hcl hb; rw [hqC] at this; exact this, fun U hU hW => ⟨rfl, hpre U hU hW⟩⟩ rfl hlen hl.1 hst (lv_room hcat) hdg hf T hT X
  cases hv
  rw [h0] at hz hk
  rw [← e1] at hP1 hz hk
  obtain ⟨hPj, hDj⟩ := va_join (wr := wr) (w1 := w) hP hD isC isR hC hR hn hdis hk hFc hP1 hD1
  have hSj : va_S A s.heap T'.heap (locs ++ L) := ⟨Nat.le_trans hS.1 hz, fun q h1 h2 => by rw [hk q (Nat.lt_of_lt_of_le h1 hS.1) (fun z => h2 (hFc q z))]; exact hS.2.1 q h1 h2, fun q hq => by
      rcases List.mem_append.mp hq with h | h
      · exact hS.2.2 q h
      · exact hFc _ (hL q h)⟩
  obtain ⟨t2, a1, b1⟩ := k v w kc ks hp T'.heap (locs ++ L) ls hPj hDj hSj hl T' rfl X'
  exact ⟨t2, stp t2 a1, b1⟩
theorem v_iretE (fx : Fx p s m args meth c cc nL own g A) {v : Int32} (w : va_W) (is : List Nat) (hr : meth.sig.returnType = some .int) (hdg : decode cc pc = .ok (.ireturn, 1)) (hn : va_nd is = true) (his : is.map (fun i => ws[i]?) = w.map some) (hu : Po (some (.int v)) w cells slots) : V p l e R s m args below meth c nL g A (MQE below (cQE g Po A) args s A) ws cells slots lv pc [.int v] :=
  fun H locs ls hP hD hS hl => W_mono (Q := MQ below (fun a st o t => cQE g Po A a st o t cells slots) args s cells slots A) (fun t ht => by
    obtain ⟨o, h1, h2, h3, h4⟩ := ht
    exact ⟨o, h1, h2, cells, slots, h3, h4⟩) (W.iret (v := v) fx.hx fx.hb hr (fun t ht hW => ⟨⟨_, w, rfl, hu, by rw [ht]; exact hP.sub is (vv_fm _ _ _ his), hD.sub is hn his⟩, hS.F ht⟩) hS.2.2 hdg fx.hlk)
theorem v_zretE (fx : Fx p s m args meth c cc nL own g A) {v : Int32} (w : va_W) (is : List Nat) (hr : meth.sig.returnType = some .boolean) (hdg : decode cc pc = .ok (.ireturn, 1)) (hnar : narrow .boolean (.int v) = .int v) (hn : va_nd is = true) (his : is.map (fun i => ws[i]?) = w.map some) (hu : Po (some (.int v)) w cells slots) : V p l e R s m args below meth c nL g A (MQE below (cQE g Po A) args s A) ws cells slots lv pc [.int v] :=
  fun H locs ls hP hD hS hl => W_mono (Q := MQ below (fun a st o t => cQE g Po A a st o t cells slots) args s cells slots A) (fun t ht => by
    obtain ⟨o, h1, h2, h3, h4⟩ := ht
    exact ⟨o, h1, h2, cells, slots, h3, h4⟩) (W.zret (v := v) fx.hx fx.hb hr hnar (fun t ht hW => ⟨⟨_, w, rfl, hu, by rw [ht]; exact hP.sub is (vv_fm _ _ _ his), hD.sub is hn his⟩, hS.F ht⟩) hS.2.2 hdg fx.hlk)
theorem v_vretE (fx : Fx p s m args meth c cc nL own g A)  (w : va_W) (is : List Nat) (hr : meth.sig.returnType = none) (hdg : decode cc pc = .ok (.return_, 1)) (hn : va_nd is = true) (his : is.map (fun i => ws[i]?) = w.map some) (hu : Po (none) w cells slots) : V p l e R s m args below meth c nL g A (MQE below (cQE g Po A) args s A) ws cells slots lv pc [] :=
  fun H locs ls hP hD hS hl => W_mono (Q := MQ below (fun a st o t => cQE g Po A a st o t cells slots) args s cells slots A) (fun t ht => by
    obtain ⟨o, h1, h2, h3, h4⟩ := ht
    exact ⟨o, h1, h2, cells, slots, h3, h4⟩) (W.vret fx.hx fx.hb hr (fun t ht hW => ⟨⟨_, w, rfl, hu, by rw [ht]; exact hP.sub is (vv_fm _ _ _ his), hD.sub is hn his⟩, hS.F ht⟩) hS.2.2 hdg fx.hlk)
end CtELayer
