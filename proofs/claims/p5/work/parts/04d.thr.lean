def wMW (y : MethodName) (b : ByteArray) (n : Nat) (r : Option FieldType) (hh : List (Nat × Nat × Nat × Nat)) : List Cond := Cond.codeWith y b n r hh :: wT
theorem wMW_good {y : MethodName} {b : ByteArray} {n : Nat} {r : Option FieldType} {hh : List (Nat × Nat × Nat × Nat)} (h : Cond.codeWith y b n r hh ∈ wT) : GoodIn wT (wMW y b n r hh) := by
  intro w hw
  rcases List.mem_cons.mp hw with rfl | hw
  · exact ⟨h, good_of_word (List.mem_filter.mp h).2⟩
  · exact ⟨hw, good_of_word (List.mem_filter.mp hw).2⟩
/-! METHODS THAT MAY THROW with their world unchanged; methods that catch -/
def xQ (g : GG) (E0 : String) (w0 : va_W) (A : Nat → Prop) : String → State → State → Prop := fun E st t => E = E0 ∧ va_P g.1 vwCl w0 t.heap ∧ va_D A w0 ∧ va_F A st t
def CtX (l : Launch) (g : GG) (y : MethodName) (cw : List Cond) (rm : Room) (av : List Value) (w0 : va_W) (Po : Option Value → va_W → Prop) (E0 : String) : Prop :=
  ∀ sz : Nat, vx_Met l y cw rm (va_Pc av (cPre g w0 sz)) (cQ g Po (va_A w0 sz)) (xQ g E0 w0 (va_A w0 sz)) rm.cells rm.slots (va_A w0 sz)
section CtXLayer
variable {p : Program} {l : Launch} {e : Env} {R : Room} {s : State} {m : MethodId} {args : Array Value} {below : List Frame} {meth : Method} {c : Code} {cc : ByteArray} {nL : Nat} {own : String} {g : GG} {A : Nat → Prop} {Q : State → Prop} {ws : va_W} {cells slots : Nat} {lv : List (Nat × Value)} {pc pn : Nat} {st : List Value}
  {y : MethodName} {rm : Room} {av : List Value} {w0 : va_W} {Po : Option Value → va_W → Prop} {bytes : ByteArray} {maxL : Nat} {ret : Option FieldType} {E0 : String}
theorem CtX_of (hy : plainName y.cls = true) (hav : (lg_sl av).length ≤ maxL)
    (body : ∀ (p : Program) (e : Env) (s : State) (m : MethodId) (args : Array Value) (below : List Frame) (meth : Method) (c : Code) (A : Nat → Prop), Fx p s m args meth c bytes maxL y.cls g A → meth.sig.returnType = ret → meth.name = y.name → (∀ x ∈ c.exceptionTable.toList, False) →
      V p l e rm s m args below meth c maxL g A (vx_MQ below (cQ g Po A) (xQ g E0 w0 A) args s rm.cells rm.slots A) w0 0 0 (lv_args 0 av) 0 []) : CtX l g y (wM y bytes maxL ret) rm av w0 Po E0 := by
  intro sz
  refine vx_ofW (cc := bytes) (maxL := maxL) (ret := ret) hy rfl ?_
  intro p e s m args below meth c s₁ B hml ht hv
  obtain ⟨rfl, hsz, hP, hK, hD0, hG⟩ := hv
  have hown : s.vm.findClass y.cls = some m.cls := findClass_of_methodNamed B.named
  have hts := atoms_spec (ws := wM y bytes maxL ret) B.pre
  subst hsz
  have hD := hD0.self (sz := s.heap.size)
  rw [lg_entry_eq]
  exact body p e s m _ below meth c (va_A w0 s.heap.size) ⟨B.exec, B.bytes, hml, hown, fun w hw => hts w (List.mem_cons_of_mem _ hw), hK, fun q h => Or.inr h, B.notSynchronized, hG⟩ B.returns (name_of_methodNamed B.named B.method).1 ht s.heap [] _ hP hD va_S.rf (lv_entry av hav)
theorem v_xret {XC : String → State → State → Prop} {mc ms : Nat} (k : V p l e R s m args below meth c nL g A (MQ below (cQ g Po A) args s mc ms A) ws cells slots lv pc st) : V p l e R s m args below meth c nL g A (vx_MQ below (cQ g Po A) XC args s mc ms A) ws cells slots lv pc st :=
  fun H locs ls hP hD hS hl => vx_ret (k H locs ls hP hD hS hl)
/-- 'throw new E("text")' -/
theorem v_throw (fx : Fx p s m args meth c cc nL "FaxRows" g A) {mc ms : Nat} (names : List String) {ik ic : Nat} (w : va_W) (is : List Nat) (hl0 : l.stackTraces = false) (hcls : Bundle.fit E0 = true) (hnames : ∀ n ∈ names, Bundle.fit n = true)
    (hk : Cond.classLink "FaxRows" ik E0 ∈ wT) (hini : Cond.initialized E0 ∈ wT) (hat : ∀ w ∈ vx_atS "FaxRows" ic E0 names, w ∈ wT ∨ w ∈ wN) (hgood : ∀ w ∈ Cond.classLink "FaxRows" ik E0 :: Cond.initialized E0 :: vx_atS "FaxRows" ic E0 names, vx_ot w = true)
    (d0 : decode cc pc = .ok (.new ik, 3)) (d3 : decode cc (pc + 3) = .ok (.dup, 1)) (d4 : decode cc (pc + 4) = .ok (.ldc 137, 2)) (d6 : decode cc (pc + 6) = .ok (.invokespecial ic, 3)) (d9 : decode cc (pc + 9) = .ok (.athrow, 1))
    (hout : ∀ x ∈ c.exceptionTable.toList, False) (hn : va_nd is = true) (his : is.map (fun i => ws[i]?) = w.map some) (hRframes : names.length + 3 < R.frames) (hRlocals : (st.map fun v => v.category).sum + (13 * (names.length + 1) + 43) ≤ R.locals) (hRc : cells + 1 ≤ R.cells) (hRs : slots + 6 ≤ R.slots) (hc : cells + 1 ≤ mc) (hs : slots + 6 ≤ ms) :
    V p l e R s m args below meth c nL g A (vx_MQ below (cQ g Po A) (xQ g E0 w A) args s mc ms A) ws cells slots lv pc st := by
  intro H locs ls hP hD hS hl
  obtain ⟨hU, hN, sa, hstr⟩ := fx.hsg.2.2.2.2
  refine vx_throwS (names := names) (ik := ik) (ic := ic) (text := "the row has no such sample") (sa := sa) (A := A) fx.hx fx.hb hl0 fx.hown hcls hnames (fx.hts _ hk) (fx.hts _ hini) hstr ?_ hgood hU hN hS (hl.1.trans fx.hml.symm) d0 d3 d4 d6 d9 (fun x hx => (hout x hx).elim) hRframes hRlocals hRc hRs fx.hlk ?_ hS.2.2 hc hs
  · intro w hw
    rcases hat w hw with h | h
    · exact fx.hts w h
    · exact va_Nw.use (nest_tab (wN_nest h)) (fx.hsg.2.1 w h)
  · intro t hal hz hk2
    refine ⟨rfl, ?_, hD.sub is hn his, ⟨Nat.le_trans hS.1 hz, fun q h1 h2 => ?_⟩⟩
    · exact (hP.sub is (vv_fm _ _ _ his)).kept (fun k q hq => hk2 q.1 ((hP.sub is (vv_fm _ _ _ his)) k q hq).lt)
    · rw [hk2 q (Nat.lt_of_lt_of_le h1 hS.1)]; exact hS.2.1 q h1 h2
/-- a call of a method that returns or throws what is caught here -/
theorem v_callVX (fx : Fx p s m args meth c cc nL own g A) (isC isR : List Nat) (wc wr : va_W) {b index ci : Nat} {fs As rest : List Value} {q1 : vw_C} (n qb : Nat) (hM : CtX l g y (wM y bytes maxL ret) rm (.ref b :: As) wc Po E0) (hdg : decode cc pc = .ok (.invokevirtual index, 3)) (hlk : Cond.methodLink own index y ∈ wT) (hin : Cond.instanceMethod y ∈ wT) (hse : Cond.selects y.cls y y ∈ wT) (hini : Cond.initialized y.cls ∈ wT) (hcode : Cond.code y bytes maxL ret ∈ wT) (hy : yOk y n = true)
    (hC : isC.map (fun i => ws[i]?) = wc.map some) (hR : isR.map (fun i => ws[i]?) = wr.map some) (hok : okCR isC isR = true) (hcl : vwCl[ci]? = some q1) (hqC : q1.1 = y.cls) (hb : wc[qb]? = some (b, .inr (ci, fs))) (hlen : As.length = n) (hst : st = As.reverse ++ .ref b :: rest) (hcat : (rest.map fun v => v.category).sum ≤ 8) (hRm : rm.frames + 1 ≤ R.frames ∧ 8 + (maxL + 11) + rm.locals ≤ R.locals) (hf : cells + rm.cells ≤ R.cells ∧ slots + rm.slots ≤ R.slots) (hpn : pc + 3 = pn)
    (x : ExceptionTableEntry) (hp : Nat) (htab : c.exceptionTable.toList = [x]) (hcov : covers x pc = true) (hct : x.catchType ≠ 0) (hcx : Cond.classLink own x.catchType E0 ∈ wT) (hcast : Cond.castable E0 E0 ∈ wN) (hhp : x.handlerPc = hp)
    (k : ∀ (v : Option Value) (w : va_W), Po v w → V p l e R s m args below meth c nL g A Q (wr ++ w) (cells + rm.cells) (slots + rm.slots) lv pn (v.toList ++ rest))
    (kx : ∀ q : Nat, V p l e R s m args below meth c nL g A Q (wr ++ wc) (cells + rm.cells) (slots + rm.slots) lv hp [.ref q]) : V p l e R s m args below meth c nL g A Q ws cells slots lv pc st := by
  subst hpn; subst hhp
  obtain ⟨hnC, hn, hdis⟩ := okCR_of hok
  intro H locs ls hP hD hS hl
  have hPc := hP.sub isC (vv_fm _ _ _ hC)
  have hDc := hD.sub isC hnC hC
  have hFc := va_free (wc := wc) hD hS fx.hA isC hC
  have hpre : ∀ U : State, U.heap = H → s.WarmedH U.vm → cPre g wc H.size U := fun U hU hW => ⟨by rw [hU], by rw [hU]; exact hPc, va_K.moved hW.alike fx.hK, hDc.weaken (fun _ _ _ _ => trivial), by rw [hU]; exact sg_callee hW fx.hsg hS hFc⟩
  intro T hT X
  rcases vx_runV (g := F0 m pc ls st) (C := y.cls) (As := As) (rest := rest) fx.fix (hM H.size) ⟨callB_of n fx.hts (wM_good hcode) rfl rfl rfl (fx.hts _ hini) (fx.hts _ hlk) (yOk_of hy) hRm, fx.hts _ hin, fx.hts _ hse⟩ ⟨Ct.blind g _ wc H.size, by have := va_recv fx.hK hPc hcl hb; rw [hqC] at this; exact this, fun U hU hW => ⟨rfl, hpre U hU hW⟩⟩ rfl hlen hl.1 hst (lv_room hcat) hdg hf T hT X with ⟨v, st₀, t, T', L, h0, X', hL, e1, e2, ⟨⟨v2, w, hv, hp, hP1, hD1⟩, hz, hk⟩, stp⟩ | ⟨q9, st₀, t, T', L, E, ce, h0, X', hL, e1, e2, ⟨rfl, hP1, hD1, hz, hk⟩, hce, hcv, hcl9, stp⟩
  · cases hv
    rw [h0] at hz hk
    rw [← e1] at hP1 hz hk
    obtain ⟨hPj, hDj⟩ := va_join (wr := wr) (w1 := w) hP hD isC isR hC hR hn hdis hk hFc hP1 hD1
    have hSj : va_S A s.heap T'.heap (locs ++ L) := ⟨Nat.le_trans hS.1 hz, fun q h1 h2 => by rw [hk q (Nat.lt_of_lt_of_le h1 hS.1) (fun z => h2 (hFc q z))]; exact hS.2.1 q h1 h2, fun q hq => by
        rcases List.mem_append.mp hq with h | h
        · exact hS.2.2 q h
        · exact hFc _ (hL q h)⟩
    obtain ⟨t2, a1, b1⟩ := k v w hp T'.heap (locs ++ L) ls hPj hDj hSj hl T' rfl X'
    exact ⟨t2, stp t2 a1, b1⟩
  · rw [h0] at hz hk
    rw [← e1] at hP1 hz hk hce
    obtain ⟨hPj, hDj⟩ := va_join (wr := wr) (w1 := wc) hP hD isC isR hC hR hn hdis hk hFc hP1 hD1
    have hSj : va_S A s.heap T'.heap (locs ++ L) := ⟨Nat.le_trans hS.1 hz, fun q h1 h2 => by rw [hk q (Nat.lt_of_lt_of_le h1 hS.1) (fun z => h2 (hFc q z))]; exact hS.2.1 q h1 h2, fun q hq => by
        rcases List.mem_append.mp hq with h | h
        · exact hS.2.2 q h
        · exact hFc _ (hL q h)⟩
    obtain ⟨t2, a1, b1⟩ := vx_catch (pc := pc) (ls := ls) (rest := rest) (args := args) (E := E) (name := E) fx.hown [] x [] htab (fun z hz => nomatch hz) hcov hct (fx.hts _ hcx) (va_Nw.use (nest_tab (wN_nest hcast)) (fx.hsg.2.1 _ hcast)) hce hcv hcl9 (kx q9 T'.heap (locs ++ L) ls hPj hDj hSj hl) T' rfl X'
    exact ⟨t2, stp.trans a1, b1⟩
variable {hh : List (Nat × Nat × Nat × Nat)}
theorem Ct_ofW (hy : plainName y.cls = true) (hav : (lg_sl av).length ≤ maxL)
    (body : ∀ (p : Program) (e : Env) (s : State) (m : MethodId) (args : Array Value) (below : List Frame) (meth : Method) (c : Code) (A : Nat → Prop), Fx p s m args meth c bytes maxL y.cls g A → meth.sig.returnType = ret → meth.name = y.name → c.exceptionTable.toList = tableOf hh →
      V p l e rm s m args below meth c maxL g A (MQ below (cQ g Po A) args s rm.cells rm.slots A) w0 0 0 (lv_args 0 av) 0 []) : Ct l g y (wMW y bytes maxL ret hh) rm av w0 Po := by
  intro sz
  refine va_MetW (cc := bytes) (maxL := maxL) (ret := ret) (hh := hh) hy rfl ?_
  intro p e s m args below meth c s₁ B hml hv
  obtain ⟨rfl, hsz, hP, hK, hD0, hG⟩ := hv
  have hown : s.vm.findClass y.cls = some m.cls := findClass_of_methodNamed B.named
  have hts := atoms_spec (ws := wMW y bytes maxL ret hh) B.pre
  subst hsz
  have hD := hD0.self (sz := s.heap.size)
  rw [lg_entry_eq]
  exact body p e s m _ below meth c (va_A w0 s.heap.size) ⟨B.exec, B.bytes, hml, hown, fun w hw => hts w (List.mem_cons_of_mem _ hw), hK, fun q h => Or.inr h, B.notSynchronized, hG⟩ B.returns (name_of_methodNamed B.named B.method).1 (vx_table (x := y) B (hts _ List.mem_cons_self)) s.heap [] _ hP hD va_S.rf (lv_entry av hav)
theorem v_runSW {mc ms n index : Nat} {H : Heap} {locs : List Loc} {Pc : Array Value → State → Prop} {Qc : Array Value → State → Outcome → State → Prop} {free : Addr → Prop} {Ts wz : List Cond} {As rest : List Value} {f : JFrame}
    (S : CallFix p m c cc nL s args Ts own) (hM : Met l y wz rm Pc Qc mc ms free) (hrc : rm.cells = mc) (hrs : rm.slots = ms) (hRm : rm.frames + 1 ≤ R.frames ∧ 8 + (maxL + 11) + rm.locals ≤ R.locals) (hG : GoodIn Ts wz) (hcw : Cond.codeWith y bytes maxL ret hh ∈ wz) (hini : (Cond.initialized y.cls).before args s = true) (hd : y.cls ≠ "java/lang/invoke/MethodHandle" ∧ y.cls ≠ "java/lang/invoke/VarHandle" ∧ (parseMethodDescriptor y.desc).map (fun d => d.parameters.length) = some n) (hl : (Cond.methodLink own index y).before args s = true) (hstt : (Cond.static y).before args s = true) (hp : PreS s H Pc As)
    (hg : f.method = m) (hn : As.length = n) (hsize : f.locals.size = nL) (hstack : f.stack = As.reverse ++ rest) (hW : 2 * f.monitorRoom + (rest.map fun v => v.category).sum ≤ 8) (hdg : decode cc f.pc = .ok (.invokestatic index, 3)) (hf : cells + mc ≤ R.cells ∧ slots + ms ≤ R.slots) :
    va_Run p l e R s m args below meth c H locs cells slots mc ms f rest (Qc As.toArray) free := by
  have hws := pay_in S.2.2.2.2 hG
  have hcode : (Cond.codeWith y bytes maxL ret hh).before args s = true := S.2.2.2.2 _ (hG _ hcw).1
  have hK : Back l R p e below s args y 3 8 (PreOf R mc ms Pc) (PostOf Qc mc ms free) := va_backW (hh := hh) (bytes := bytes) (maxL := maxL) (ret := ret) hM hp.1 hrc hrs hRm.1 hRm.2 hws hcw (fun a' U hW => word_at hW (Or.inl (by first | rfl | simp [Cond.onTables, Cond.keeps, Cond.steady])) hini)
  obtain ⟨hx, hb, hml, ho, -⟩ := S
  intro T hT X
  obtain ⟨mk, methM, cM, hnamed, hmethM, -, -, -, -, -, -, hsigM⟩ := Cond.codeWith_spec hcode
  have hstatic : methM.isStatic = true := Cond.static_spec hnamed hmethM hstt
  obtain ⟨kP, hkP, -⟩ := className_of_methodNamed hnamed
  have hinitP : kP.init = .initialized := Cond.initialized_spec (findClass_of_methodNamed hnamed) hkP hini
  have hlen : As.length = methM.sig.parameters.length := hn.trans (by have h2 := hd.2.2; rw [hsigM] at h2; exact (Option.some.inj h2).symm)
  obtain ⟨vm₁, X₁, hstep₁⟩ := X.invokestatic hx ho hl hnamed hmethM hstatic hkP hinitP ⟨hd.1, hd.2.1⟩ (g := f) hg (argsL := As) (rest := rest) hlen hstack (by rw [hb]; exact hdg)
  obtain ⟨v, ⟨U', l2, c2, s2⟩, X', ⟨g', mk', t, L, e1, e2, hq, h1, hL, h2, h3⟩, hsteps⟩ := hK m meth c ⟨T.setVm vm₁, locs, cells, slots⟩ { f with stack := rest } (.invokestatic index) mk As.toArray X₁ hg (hsize.trans hml.symm) (by rw [hb]; exact hdg) hW (X₁.named hnamed) ⟨hf.1, hf.2, hp.2 (T.setVm vm₁) hT X₁.warmed⟩
  dsimp only [Pt.U, Pt.locs, Pt.cells, Pt.slots] at X' e1 e2 h1 h2 h3 hsteps
  subst h1; subst h2; subst h3
  exact ⟨v, (T.setVm vm₁).calling g' mk' As.toArray, t, U', L, hT, X', hL, e1, e2, hq, fun target h => hstep₁ _ fun acts => by rw [doInvoke_state]; exact hsteps.trans h⟩
theorem v_callSW (fx : Fx p s m args meth c cc nL own g A) (isC isR : List Nat) (wc wr : va_W) {index : Nat} {As rest : List Value} (n : Nat) (hM : Ct l g y (wMW y bytes maxL ret hh) rm As wc Po) (hdg : decode cc pc = .ok (.invokestatic index, 3)) (hlk : Cond.methodLink own index y ∈ wT) (hstt : Cond.static y ∈ wT) (hini : Cond.initialized y.cls ∈ wT) (hcode : Cond.codeWith y bytes maxL ret hh ∈ wT) (hy : yOk y n = true)
    (hC : isC.map (fun i => ws[i]?) = wc.map some) (hR : isR.map (fun i => ws[i]?) = wr.map some) (hok : okCR isC isR = true) (hlen : As.length = n) (hst : st = As.reverse ++ rest) (hcat : (rest.map fun v => v.category).sum ≤ 8) (hRm : rm.frames + 1 ≤ R.frames ∧ 8 + (maxL + 11) + rm.locals ≤ R.locals) (hf : cells + rm.cells ≤ R.cells ∧ slots + rm.slots ≤ R.slots) (hpn : pc + 3 = pn)
    (k : ∀ (v : Option Value) (w : va_W), Po v w → V p l e R s m args below meth c nL g A Q (wr ++ w) (cells + rm.cells) (slots + rm.slots) lv pn (v.toList ++ rest)) : V p l e R s m args below meth c nL g A Q ws cells slots lv pc st :=
  v_back fx isC isR hC hR hok (fun H locs ls hpre hPc hl => v_runSW (f := F0 m pc ls st) (As := As) (rest := rest) fx.fix (hM H.size) rfl rfl hRm (wMW_good hcode) List.mem_cons_self (fx.hts _ hini) (yOk_of hy) (fx.hts _ hlk) (fx.hts _ hstt) ⟨Ct.blind g _ wc H.size, fun U hU hW => ⟨rfl, hpre U hU hW⟩⟩ rfl hlen hl.1 hst (lv_room hcat) hdg hf) hpn k
theorem v_lcmp (fx : Fx p s m args meth c cc nL own g A) {x y : Int64} (v : Int32) (hdg : decode cc pc = .ok (.lcmp, 1)) (hv : lg_cmp x y = v) (hpn : pc + 1 = pn) (k : V p l e R s m args below meth c nL g A Q ws cells slots lv pn (.int v :: st)) : V p l e R s m args below meth c nL g A Q ws cells slots lv pc (.long y :: .long x :: st) := by
  subst hpn; subst hv
  intro H locs ls hP hD hS hl
  exact W.lcmp fx.hx fx.hb hdg (k H locs ls hP hD hS hl)
end CtXLayer
