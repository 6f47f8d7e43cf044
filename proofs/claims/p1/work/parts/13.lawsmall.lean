/-! THE LAW'S SMALL METHODS; calls of a method with an exception table -/
set_option maxRecDepth 20000 in
theorem k968 : (Jvm.Cond.codeWith ({ cls := "FaxRowsLaw", name := "at", desc := "(LFaxRows;II[J)I" } : Jvm.MethodName) method_3_code (5 : Nat) (Option.some Jvm.ClassFile.FieldType.int) [((0 : Nat), (17 : Nat), (20 : Nat), (13 : Nat))]) ∈ wT := wk (lwt_4 (List.mem_of_getElem? (i := 203) rfl)) rfl
def wMW (y : MethodName) (b : ByteArray) (n : Nat) (r : Option FieldType) (hh : List (Nat × Nat × Nat × Nat)) : List Cond := Cond.codeWith y b n r hh :: wT
theorem wMW_good {y : MethodName} {b : ByteArray} {n : Nat} {r : Option FieldType} {hh : List (Nat × Nat × Nat × Nat)} (h : Cond.codeWith y b n r hh ∈ wT) : GoodIn wT (wMW y b n r hh) := by
  intro w hw
  rcases List.mem_cons.mp hw with rfl | hw
  · exact ⟨h, good_of_word (List.mem_filter.mp h).2⟩
  · exact ⟨hw, good_of_word (List.mem_filter.mp hw).2⟩
section CtW
variable {p : Program} {l : Launch} {e : Env} {R : Room} {s : State} {m : MethodId} {args : Array Value} {below : List Frame} {meth : Method} {c : Code} {cc : ByteArray} {nL : Nat} {own : String} {g : GG} {A : Nat → Prop} {Q : State → Prop} {ws : va_W} {cells slots : Nat} {lv : List (Nat × Value)} {pc pn : Nat} {st : List Value}
  {y : MethodName} {rm : Room} {av : List Value} {w0 : va_W} {Po : Option Value → va_W → Prop} {bytes : ByteArray} {maxL : Nat} {ret : Option FieldType} {hh : List (Nat × Nat × Nat × Nat)}
theorem Ct_ofW (hy : plainName y.cls = true) (hav : (lg_sl av).length ≤ maxL)
    (body : ∀ (p : Program) (e : Env) (s : State) (m : MethodId) (args : Array Value) (below : List Frame) (meth : Method) (c : Code) (A : Nat → Prop), Fx p s m args meth c bytes maxL y.cls g A → meth.sig.returnType = ret → meth.name = y.name →
      V p l e rm s m args below meth c maxL g A (MQ below (cQ g Po A) args s rm.cells rm.slots A) w0 0 0 (lv_args 0 av) 0 []) : Ct l g y (wMW y bytes maxL ret hh) rm av w0 Po := by
  intro sz
  refine va_MetW (cc := bytes) (maxL := maxL) (ret := ret) (hh := hh) hy rfl ?_
  intro p e s m args below meth c s₁ B hml hv
  obtain ⟨rfl, hsz, hP, hK, hD0, hG⟩ := hv
  have hown : s.vm.findClass y.cls = some m.cls := findClass_of_methodNamed B.named
  have hts := atoms_spec (ws := wMW y bytes maxL ret hh) B.pre
  subst hsz
  have hD := hD0.self (sz := s.heap.size)
  rw [lg_entry_eq]
  exact body p e s m _ below meth c (va_A w0 s.heap.size) ⟨B.exec, B.bytes, hml, hown, fun w hw => hts w (List.mem_cons_of_mem _ hw), hK, fun q h => Or.inr h, B.notSynchronized, hG⟩ B.returns (name_of_methodNamed B.named B.method).1 s.heap [] _ hP hD va_S.rf (lv_entry av hav)
theorem v_runSW {mc ms n index : Nat} {H : Heap} {locs : List Loc} {Pc : Array Value → State → Prop} {Qc : Array Value → State → Outcome → State → Prop} {free : Addr → Prop} {Ts wz : List Cond} {As rest : List Value} {f : JFrame}
    (S : CallFix p m c cc nL s args Ts own) (hM : Met l y wz rm Pc Qc mc ms free) (hrc : rm.cells = mc) (hrs : rm.slots = ms) (hRm : rm.frames + 1 ≤ R.frames ∧ 8 + (maxL + 11) + rm.locals ≤ R.locals) (hG : GoodIn Ts wz) (hcw : Cond.codeWith y bytes maxL ret hh ∈ wz) (hini : (Cond.initialized y.cls).before args s = true) (hd : y.cls ≠ "java/lang/invoke/MethodHandle" ∧ y.cls ≠ "java/lang/invoke/VarHandle" ∧ (parseMethodDescriptor y.desc).map (fun d => d.parameters.length) = some n) (hl : (Cond.methodLink own index y).before args s = true) (hstt : (Cond.static y).before args s = true) (hp : PreS s H Pc As)
    (hg : f.method = m) (hn : As.length = n) (hsize : f.locals.size = nL) (hstack : f.stack = As.reverse ++ rest) (hW : 2 * f.monitorRoom + (rest.map fun v => v.category).sum ≤ 8) (hdg : decode cc f.pc = .ok (.invokestatic index, 3)) (hf : cells + mc ≤ R.cells ∧ slots + ms ≤ R.slots) :
    va_Run p l e R s m args below meth c H locs cells slots mc ms f rest (Qc As.toArray) free := by
  have hws := pay_in S.2.2.2.2 hG
  have hcode : (Cond.codeWith y bytes maxL ret hh).before args s = true := S.2.2.2.2 _ (hG _ hcw).1
  have hK : Back l R p e below s args y 3 8 (PreOf R mc ms Pc) (PostOf Qc mc ms free) := va_backW (hh := hh) (bytes := bytes) (maxL := maxL) (ret := ret) hM hp.1 hrc hrs hRm.1 hRm.2 hws hcw (fun a' U hW => word_at hW (Or.inl (by first | rfl | simp [Cond.onTables, Cond.keeps, Cond.steady])) hini)
  obtain ⟨hx, hb, hml, ho, -⟩ := S
  intro T hT X
  obtain ⟨mk, methM, cM, hnamed, hmethM, -, -, -, -, -, -, hsigM⟩ := Cond.codeWith_spec hcode
  have hstatic : methM.isStatic = true := Cond.static_spec hnamed hmethM hstt
  obtain ⟨kP, hkP, -⟩ := className_of_methodNamed hnamed
  have hinitP : kP.init = .initialized := Cond.initialized_spec (findClass_of_methodNamed hnamed) hkP hini
  have hlen : As.length = methM.sig.parameters.length := hn.trans (by have h2 := hd.2.2; rw [hsigM] at h2; exact (Option.some.inj h2).symm)
  obtain ⟨vm₁, X₁, hstep₁⟩ := X.invokestatic hx ho hl hnamed hmethM hstatic hkP hinitP ⟨hd.1, hd.2.1⟩ (g := f) hg (argsL := As) (rest := rest) hlen hstack (by rw [hb]; exact hdg)
  obtain ⟨v, ⟨U', l2, c2, s2⟩, X', ⟨g', mk', t, L, e1, e2, hq, h1, hL, h2, h3⟩, hsteps⟩ := hK m meth c ⟨T.setVm vm₁, locs, cells, slots⟩ { f with stack := rest } (.invokestatic index) mk As.toArray X₁ hg (hsize.trans hml.symm) (by rw [hb]; exact hdg) hW (X₁.named hnamed) ⟨hf.1, hf.2, hp.2 (T.setVm vm₁) hT X₁.warmed⟩
  dsimp only [Pt.U, Pt.locs, Pt.cells, Pt.slots] at X' e1 e2 h1 h2 h3 hsteps
  subst h1; subst h2; subst h3
  exact ⟨v, (T.setVm vm₁).calling g' mk' As.toArray, t, U', L, hT, X', hL, e1, e2, hq, fun target h => hstep₁ _ fun acts => by rw [doInvoke_state]; exact hsteps.trans h⟩
theorem v_callSW (fx : Fx p s m args meth c cc nL own g A) (isC isR : List Nat) (wc wr : va_W) {index : Nat} {As rest : List Value} (n : Nat) (hM : Ct l g y (wMW y bytes maxL ret hh) rm As wc Po) (hdg : decode cc pc = .ok (.invokestatic index, 3)) (hlk : Cond.methodLink own index y ∈ wT) (hstt : Cond.static y ∈ wT) (hini : Cond.initialized y.cls ∈ wT) (hcode : Cond.codeWith y bytes maxL ret hh ∈ wT) (hy : yOk y n = true)
    (hC : isC.map (fun i => ws[i]?) = wc.map some) (hR : isR.map (fun i => ws[i]?) = wr.map some) (hok : okCR isC isR = true) (hlen : As.length = n) (hst : st = As.reverse ++ rest) (hcat : (rest.map fun v => v.category).sum ≤ 8) (hRm : rm.frames + 1 ≤ R.frames ∧ 8 + (maxL + 11) + rm.locals ≤ R.locals) (hf : cells + rm.cells ≤ R.cells ∧ slots + rm.slots ≤ R.slots) (hpn : pc + 3 = pn)
    (k : ∀ (v : Option Value) (w : va_W), Po v w → V p l e R s m args below meth c nL g A Q (wr ++ w) (cells + rm.cells) (slots + rm.slots) lv pn (v.toList ++ rest)) : V p l e R s m args below meth c nL g A Q ws cells slots lv pc st :=
  v_back fx isC isR hC hR hok (fun H locs ls hpre hPc hl => v_runSW (f := F0 m pc ls st) (As := As) (rest := rest) fx.fix (hM H.size) rfl rfl hRm (wMW_good hcode) List.mem_cons_self (fx.hts _ hini) (yOk_of hy) (fx.hts _ hlk) (fx.hts _ hstt) ⟨Ct.blind g _ wc H.size, fun U hU hW => ⟨rfl, hpre U hU hW⟩⟩ rfl hlen hl.1 hst (lv_room hcat) hdg hf) hpn k
theorem v_lcmp (fx : Fx p s m args meth c cc nL own g A) {x y : Int64} (v : Int32) (hdg : decode cc pc = .ok (.lcmp, 1)) (hv : lg_cmp x y = v) (hpn : pc + 1 = pn) (k : V p l e R s m args below meth c nL g A Q ws cells slots lv pn (.int v :: st)) : V p l e R s m args below meth c nL g A Q ws cells slots lv pc (.long y :: .long x :: st) := by
  subst hpn; subst hv
  intro H locs ls hP hD hS hl
  exact W.lcmp fx.hx fx.hb hdg (k H locs ls hP hD hS hl)
end CtW
theorem and15 (x : Int32) : ∃ z : Int, (0 ≤ z ∧ z < 16) ∧ x &&& iI 15 = iI z := by
  obtain ⟨j, hj, e⟩ := pk_andE x (m := iI 15) 4 (by decide +kernel)
  exact ⟨j, by omega, by rw [e, iI_nI]⟩
theorem dL_cell_0 : decode cL_cell 0 = .ok (.iload_n 1, 1) := by decide +kernel
theorem dL_cell_1 : decode cL_cell 1 = .ok (.aload_n 0, 1) := by decide +kernel
theorem dL_cell_2 : decode cL_cell 2 = .ok (.arraylength, 1) := by decide +kernel
theorem dL_cell_3 : decode cL_cell 3 = .ok (.if_icmp .ge 9, 3) := by decide +kernel
theorem dL_cell_6 : decode cL_cell 6 = .ok (.aload_n 0, 1) := by decide +kernel
theorem dL_cell_7 : decode cL_cell 7 = .ok (.iload_n 1, 1) := by decide +kernel
theorem dL_cell_8 : decode cL_cell 8 = .ok (.iaload, 1) := by decide +kernel
theorem dL_cell_9 : decode cL_cell 9 = .ok (.goto 4, 3) := by decide +kernel
theorem dL_cell_12 : decode cL_cell 12 = .ok (.iconst 0, 1) := by decide +kernel
theorem dL_cell_13 : decode cL_cell 13 = .ok (.ireturn, 1) := by decide +kernel
abbrev po_c_L_cell (g : GG) (x : Int) : Option Value → va_W → Prop := fun v8 w8 => ∃ r : Int32, v8 = some (.int r) ∧ w8 = [] ∧ (r = g.2.2.2.2.getD x.toNat 0)
set_option maxHeartbeats 4000000 in
set_option maxRecDepth 100000 in
/-- an int of the script, or 0 -/
theorem c_L_cell (l : Launch) (g : GG) (x : Int) (hp0 : 0 ≤ x ∧ x < 100000) (hp1 : g.2.2.2.2.length ≤ 100000) : Ct l g yL_cell (wM yL_cell cL_cell 2 (some .int)) (rmD 0 0 0) [.ref g.2.2.2.1, .int (iI x)] [] (po_c_L_cell g x) := by
  refine Ct_of (by decide +kernel) (Nat.le_of_ble_eq_true rfl) ?_
  intro p9 e9 s9 m9 ag9 bl9 mt9 c9 A9 fx hr hnm
  refine v_iload_n fx 1 dL_cell_0 rfl rfl ?_
  refine v_aload_n fx 0 dL_cell_1 rfl rfl ?_
  refine v_slen fx (g.2.2.2.2.length : Int) rfl dL_cell_2 rfl ?_
  refine v_icmp_ge fx 12 dL_cell_3 (by decide) rfl (by omega) (by omega) (fun h_1 => ?_) (fun h_1 => ?_)
  ·
    refine v_iconst fx dL_cell_12 rfl ?_
    exact v_iret fx [] [] hr dL_cell_13 rfl rfl (nl rfl) (nl rfl) ⟨(iI 0), rfl, rfl, (by first | rfl | (rw [List.getD, List.getElem?_eq_none (by omega)]; rfl))⟩
  ·
    refine v_aload_n fx 0 dL_cell_6 rfl rfl ?_
    refine v_iload_n fx 1 dL_cell_7 rfl rfl ?_
    refine v_sald fx (by omega) dL_cell_8 rfl ?_
    refine v_goto fx 13 dL_cell_9 (by decide) ?_
    exact v_iret fx [] [] hr dL_cell_13 rfl rfl (nl rfl) (nl rfl) ⟨(g.2.2.2.2.getD (x).toNat 0), rfl, rfl, (by first | rfl | (rw [List.getD, List.getElem?_eq_none (by omega)]; rfl))⟩
theorem dL_at_0 : decode cL_at 0 = .ok (.aload_n 3, 1) := by decide +kernel
theorem dL_at_1 : decode cL_at 1 = .ok (.iconst 0, 1) := by decide +kernel
theorem dL_at_2 : decode cL_at 2 = .ok (.aload_n 0, 1) := by decide +kernel
theorem dL_at_3 : decode cL_at 3 = .ok (.iload_n 1, 1) := by decide +kernel
theorem dL_at_4 : decode cL_at 4 = .ok (.iload_n 2, 1) := by decide +kernel
theorem dL_at_5 : decode cL_at 5 = .ok (.invokevirtual 7, 3) := by decide +kernel
theorem dL_at_8 : decode cL_at 8 = .ok (.ifCond .eq 7, 3) := by decide +kernel
theorem dL_at_15 : decode cL_at 15 = .ok (.lconst 0, 1) := by decide +kernel
theorem dL_at_16 : decode cL_at 16 = .ok (.lastore, 1) := by decide +kernel
theorem dL_at_17 : decode cL_at 17 = .ok (.goto 7, 3) := by decide +kernel
theorem dL_at_24 : decode cL_at 24 = .ok (.iconst 0, 1) := by decide +kernel
theorem dL_at_25 : decode cL_at 25 = .ok (.ireturn, 1) := by decide +kernel
abbrev po_c_L_at_0 (g : GG) (h0 : Nat) (kd : Int) (w : Int) (sm : Nat) (rw : Nat) (wr : Nat) (fd : Nat) (wt : Nat) (rd : Nat) (fi : Int) (rp : Int) (lo : Int) (yr : Nat) (ym : Nat) (yd : Nat) (yt1 : Nat) (yt2 : Nat) (yt3 : Nat) (ytd : Nat) (ysr : Nat) (rs : Nat) (ri : Nat) (oa : Nat) (x : Int32) (y : Int) (f : Nat → Int64) : Option Value → va_W → Prop := fun v8 w8 => ∃ f2 : Nat → Int64, v8 = some (.int (iI 0)) ∧ w8 = [(h0, ob 7 [.int (iI kd), .int (iI w), .ref sm, .ref rw, .ref wr, .ref fd, .ref wt, .ref rd, .int (iI fi), .int (iI rp), .int (iI lo)]), (rd, ob 3 [.int (iI w), .ref yr, .ref ym, .ref yd, .ref yt1, .ref yt2, .ref yt3, .ref ytd, .ref ysr]), (yr, ob 2 [.ref rs, .ref ri, .int (iI 0)]), (oa, aJ g 1 f2)] ∧ (f2 0 = 0)
set_option maxHeartbeats 4000000 in
set_option maxRecDepth 100000 in
/-- nothing was read: false -/
theorem c_L_at_0 (l : Launch) (g : GG) (h0 : Nat) (kd : Int) (w : Int) (sm : Nat) (rw : Nat) (wr : Nat) (fd : Nat) (wt : Nat) (rd : Nat) (fi : Int) (rp : Int) (lo : Int) (yr : Nat) (ym : Nat) (yd : Nat) (yt1 : Nat) (yt2 : Nat) (yt3 : Nat) (ytd : Nat) (ysr : Nat) (rs : Nat) (ri : Nat) (oa : Nat) (x : Int32) (y : Int) (f : Nat → Int64) (hp0 : -2147483648 ≤ y ∧ y < 2147483648) : Ct l g yL_at (wMW yL_at cL_at 5 (some .int) [(0, 17, 20, 13)]) (rmD 3 0 0) [.ref h0, .int x, .int (iI y), .ref oa] [(h0, ob 7 [.int (iI kd), .int (iI w), .ref sm, .ref rw, .ref wr, .ref fd, .ref wt, .ref rd, .int (iI fi), .int (iI rp), .int (iI lo)]), (rd, ob 3 [.int (iI w), .ref yr, .ref ym, .ref yd, .ref yt1, .ref yt2, .ref yt3, .ref ytd, .ref ysr]), (yr, ob 2 [.ref rs, .ref ri, .int (iI 0)]), (oa, aJ g 1 f)] (po_c_L_at_0 g h0 kd w sm rw wr fd wt rd fi rp lo yr ym yd yt1 yt2 yt3 ytd ysr rs ri oa x y f) := by
  refine Ct_ofW (by decide +kernel) (Nat.le_of_ble_eq_true rfl) ?_
  intro p9 e9 s9 m9 ag9 bl9 mt9 c9 A9 fx hr hnm
  refine v_aload_n fx 3 dL_at_0 rfl rfl ?_
  refine v_iconst fx dL_at_1 rfl ?_
  refine v_aload_n fx 0 dL_at_2 rfl rfl ?_
  refine v_iload_n fx 1 dL_at_3 rfl rfl ?_
  refine v_iload_n fx 2 dL_at_4 rfl rfl ?_
  refine v_callV (As := [.int x, .int (iI y)]) (rest := [.int (iI 0), .ref oa]) fx [0, 1, 2] [3] [(h0, ob 7 [.int (iI kd), .int (iI w), .ref sm, .ref rw, .ref wr, .ref fd, .ref wt, .ref rd, .int (iI fi), .int (iI rp), .int (iI lo)]), (rd, ob 3 [.int (iI w), .ref yr, .ref ym, .ref yd, .ref yt1, .ref yt2, .ref yt3, .ref ytd, .ref ysr]), (yr, ob 2 [.ref rs, .ref ri, .int (iI 0)])] [(oa, aJ g 1 f)] 2 0 (c_X7_at_0 l g h0 kd w sm rw wr fd wt rd fi rp lo yr ym yd yt1 yt2 yt3 ytd ysr rs ri x y (by first | omega | decide | assumption)) dL_at_5 k970 k971 k972 k46 k973 ykX7_at rfl rfl rfl rfl rfl rfl rfl rfl (nl rfl) ⟨nl rfl, nl rfl⟩ ⟨(nl rfl), (nl rfl)⟩ rfl (fun v9 w9 hu => ?_)
  obtain ⟨rfl, rfl⟩ := hu
  refine v_is (wn := [(oa, aJ g 1 f), (h0, ob 7 [.int (iI kd), .int (iI w), .ref sm, .ref rw, .ref wr, .ref fd, .ref wt, .ref rd, .int (iI fi), .int (iI rp), .int (iI lo)]), (rd, ob 3 [.int (iI w), .ref yr, .ref ym, .ref yd, .ref yt1, .ref yt2, .ref yt3, .ref ytd, .ref ysr]), (yr, ob 2 [.ref rs, .ref ri, .int (iI 0)])]) (cn := 0) (sn := 0) (sn2 := [.int (iI 0), .int (iI 0), .ref oa]) rfl rfl rfl rfl ?_
  refine v_if_eq fx 15 dL_at_8 (by decide) rfl (by omega) (fun h_1 => ?_) (fun h0 => absurd h0 (by omega))
  refine v_lconst fx 0 dL_at_15 rfl rfl ?_
  obtain ⟨f_2, ef_2⟩ : ∃ f9 : Nat → Int64, vp_updL f (0 : Int).toNat 0 = f9 := ⟨_, rfl⟩
  refine v_last fx 0 f_2 [(oa, aJ g 1 f_2), (h0, ob 7 [.int (iI kd), .int (iI w), .ref sm, .ref rw, .ref wr, .ref fd, .ref wt, .ref rd, .int (iI fi), .int (iI rp), .int (iI lo)]), (rd, ob 3 [.int (iI w), .ref yr, .ref ym, .ref yd, .ref yt1, .ref yt2, .ref yt3, .ref ytd, .ref ysr]), (yr, ob 2 [.ref rs, .ref ri, .int (iI 0)])] dL_at_16 rfl (by omega) (by omega) ef_2 rfl rfl ?_
  refine v_goto fx 24 dL_at_17 (by decide) ?_
  refine v_iconst fx dL_at_24 rfl ?_
  exact v_iret fx [(h0, ob 7 [.int (iI kd), .int (iI w), .ref sm, .ref rw, .ref wr, .ref fd, .ref wt, .ref rd, .int (iI fi), .int (iI rp), .int (iI lo)]), (rd, ob 3 [.int (iI w), .ref yr, .ref ym, .ref yd, .ref yt1, .ref yt2, .ref yt3, .ref ytd, .ref ysr]), (yr, ob 2 [.ref rs, .ref ri, .int (iI 0)]), (oa, aJ g 1 f_2)] [1, 2, 3, 0] hr dL_at_25 rfl rfl (nl rfl) (nl rfl) ⟨f_2, rfl, rfl, (by rw [← ef_2]; rfl)⟩
