/-! INTS at the level of Int -/
def iI (a : Int) : Int32 := Int32.ofInt a
theorem iI_add (a b : Int) : iI a + iI b = iI (a + b) := (Int32.ofInt_add a b).symm
theorem iI_sub (a b : Int) : iI a - iI b = iI (a - b) := (Int32.ofInt_sub a b).symm
theorem iI_mul (a b : Int) : iI a * iI b = iI (a * b) := (Int32.ofInt_mul a b).symm
theorem iI_neg (a : Int) : - iI a = iI (-a) := (Int32.ofInt_neg a).symm
theorem iI_of (x : Int32) : iI x.toInt = x := Int32.ofInt_toInt x
theorem iI_toInt {a : Int} (h : -2147483648 ≤ a ∧ a < 2147483648) : (iI a).toInt = a := by
  unfold iI
  rw [Int32.toInt_ofInt]
  have hz : ((Int32.size : Nat) : Int) = 4294967296 := rfl
  exact Int.bmod_eq_of_le (by omega) (by omega)
theorem iI_any (x : Int32) : ∃ a : Int, (-2147483648 ≤ a ∧ a < 2147483648) ∧ x = iI a :=
  ⟨x.toInt, ⟨Int32.le_toInt x, Int32.toInt_lt x⟩, (iI_of x).symm⟩
theorem iI_lt {a b : Int} (ha : -2147483648 ≤ a ∧ a < 2147483648) (hb : -2147483648 ≤ b ∧ b < 2147483648) : iI a < iI b ↔ a < b := by
  rw [Int32.lt_iff_toInt_lt, iI_toInt ha, iI_toInt hb]
theorem iI_le {a b : Int} (ha : -2147483648 ≤ a ∧ a < 2147483648) (hb : -2147483648 ≤ b ∧ b < 2147483648) : iI a ≤ iI b ↔ a ≤ b := by
  rw [Int32.le_iff_toInt_le, iI_toInt ha, iI_toInt hb]
theorem iI_inj {a b : Int} (ha : -2147483648 ≤ a ∧ a < 2147483648) (hb : -2147483648 ≤ b ∧ b < 2147483648) : iI a = iI b ↔ a = b := by
  rw [← Int32.toInt_inj, iI_toInt ha, iI_toInt hb]
theorem iI_nI (n : Nat) : nI n = iI n := by
  unfold iI nI
  first | exact (Int32.ofInt_eq_ofNat).symm | exact (Int32.ofInt_ofNat).symm | (apply Int32.toBitVec_inj.mp; simp; done) | (rw [Int32.ofInt_eq_ofNat]; done) | simp
theorem iI_clamp {a : Int} (h : 0 ≤ a ∧ a < 2147483648) : (iI a).toNatClampNeg = a.toNat := by
  unfold Int32.toNatClampNeg
  rw [iI_toInt (by omega)]
theorem iI_in {a : Int} {n : Nat} (h : 0 ≤ a ∧ a < n) (hn : n < 2147483648) : vp_in (iI a) n := by
  rw [vp_in_iff, iI_toInt (by omega)]
  omega
theorem iI_shr {a : Int} (h : -2147483648 ≤ a ∧ a < 2147483648) (x : Int32) (k : Nat) (hk : (x.toBitVec.smod 32).toNat = k) : iI a >>> x = iI (a / (2 ^ k : Nat)) := by
  have h1 := pk_shr (iI a) x k hk
  rw [iI_toInt h, Int.shiftRight_eq_div_pow] at h1
  rw [← iI_of (iI a >>> x), h1]
theorem iI_and {a : Int} (h : 0 ≤ a ∧ a < 2147483648) {m : Int32} (k : Nat) (hm : m.toBitVec.toNat = 2 ^ k - 1) : iI a &&& m = iI (a % (2 ^ k : Nat)) := by
  obtain ⟨n, rfl⟩ := Int.eq_ofNat_of_zero_le h.1
  have h2 : n < 2 ^ 32 := by omega
  have h3 := pk_andN h2 k hm
  rw [iI_nI, iI_nI] at h3
  rw [show ((n : Nat) : Int) % ((2 ^ k : Nat) : Int) = ((n % 2 ^ k : Nat) : Int) from rfl]
  exact h3
theorem iI_nar_i (x : Int32) : narrow .int (.int x) = .int x := vp_nar_int x
theorem iI_0 : iI 0 = 0 := by decide
/-! the class's tables, and what stays over all calls -/
def gN : Nat → String := fun k => match k with
  | 0 => "WHITE_RUNS"
  | 1 => "BLACK_RUNS"
  | 2 => "LONG_RUNS"
  | _ => "MODES"
def gT0 : List Int32 := [309, 71, 23, 24, 27, 28, 30, 31, 51, 52, 39, 40, 72, 67, 116, 117, 106, 107, 167, 140, 136, 151, 131, 132, 168, 171, 147, 164, 152, 258, 259, 282, 283, 274, 275, 276, 277, 278, 279, 296, 297, 298, 299, 300, 301, 260, 261, 266, 267, 338, 339, 340, 341, 292, 293, 344, 345, 346, 347, 330, 331, 306, 307, 308, 59, 50, 87, 183, 310, 311, 356, 357, 360, 359, 716, 717, 722, 723, 724, 725, 726, 727, 728, 729, 730, 731, 664, 665, 666, 88, 667]
def gT1 : List Int32 := [1079, 10, 7, 6, 11, 19, 18, 35, 69, 68, 132, 133, 135, 260, 263, 536, 1047, 1048, 1032, 2151, 2152, 2156, 2103, 2088, 2071, 2072, 4298, 4299, 4300, 4301, 4200, 4201, 4202, 4203, 4306, 4307, 4308, 4309, 4310, 4311, 4204, 4205, 4314, 4315, 4180, 4181, 4182, 4183, 4196, 4197, 4178, 4179, 4132, 4151, 4152, 4135, 4136, 4184, 4185, 4139, 4140, 4186, 4198, 4199, 1039, 4296, 4297, 4187, 4147, 4148, 4149, 8300, 8301, 8266, 8267, 8268, 8269, 8306, 8307, 8308, 8309, 8310, 8311, 8274, 8275, 8276, 8277, 8282, 8283, 8292, 8293]
def gT2 : List Int32 := [2056, 2060, 2061, 4114, 4115, 4116, 4117, 4118, 4119, 4124, 4125, 4126, 4127]
def gT3 : List Int32 := [17, 9, 130, 66, 10, 3, 11, 67, 131, 129]
def gT : Nat → List Int32 := fun k => match k with
  | 0 => gT0
  | 1 => gT1
  | 2 => gT2
  | _ => gT3
/-- numbers of the launch: class numbers and field slots, the array classes (0 int, 1 byte, 2 boolean, 3 long), where the tables lie, the script's place and its ints -/
abbrev GG : Type := va_G × (Nat → ClassId) × (Nat → Nat) × (Nat × List Int32)
abbrev tyL (g : GG) : List (ClassId × FieldType) := [(g.2.1 0, .int), (g.2.1 1, .byte), (g.2.1 2, .boolean), (g.2.1 3, .long)]
abbrev ob (k : Nat) (fs : List Value) : va_E := .inr (k, fs)
abbrev aI (g : GG) (n : Nat) (f : Nat → Int32) : va_E := .inl (g.2.1 0, n, .inl f)
abbrev aB (g : GG) (n : Nat) (f : Nat → Int32) : va_E := .inl (g.2.1 1, n, .inl f)
abbrev aZ (g : GG) (n : Nat) (f : Nat → Int32) : va_E := .inl (g.2.1 2, n, .inl f)
abbrev aJ (g : GG) (n : Nat) (f : Nat → Int64) : va_E := .inl (g.2.1 3, n, .inr (.inl f))
abbrev rmD (d c k : Nat) : Room := { frames := d, cells := c, slots := k, locals := 32 * d }
/-- what a throw needs: two statics of Throwable, and where the text lies -/
def thr (A : Nat → Prop) (U : State) (H : Heap) : Prop := vx_Zq Bundle.tN "UNASSIGNED_STACK" Bundle.steD A U H ∧ vx_Zq Bundle.tN "SUPPRESSED_SENTINEL" Bundle.listD A U H ∧ ∃ sa, vk_R "FaxRows" 137 "the row has no such sample" sa U
theorem thr_same {A : Nat → Prop} {u U : State} {H : Heap} (h : u.vm = U.vm) (ht : thr A u H) : thr A U H := by
  have ha : u.vm.Alike U.vm := by rw [h]; exact Vm.Alike.refl _
  obtain ⟨h1, h2, sa, h3⟩ := ht
  exact ⟨h1.moved ha, h2.moved ha, sa, vk_R.same h.symm h3⟩
theorem thr_callee {A B : Nat → Prop} {s U : State} {H : Heap} {locs : List Loc} (hW : s.WarmedH U.vm) (h : thr A s s.heap) (hS : va_S A s.heap H locs) (hAB : ∀ q, B q → A q) : thr B U H := by
  obtain ⟨h1, h2, sa, h3⟩ := h
  exact ⟨((h1.kept hS.2.1).narrow hAB).moved hW.alike, ((h2.kept hS.2.1).narrow hAB).moved hW.alike, sa, vk_R.warm hW h3⟩
def sg (g : GG) (A : Nat → Prop) (U : State) (H : Heap) : Prop := (∀ k, k < 4 → va_Z "FaxRows" (gN k) "[I" (.ref (g.2.2.1 k)) A U H ∧ va_T .int (g.2.2.1 k) (gT k).length (fun j => .int ((gT k).getD j 0)) A U H) ∧ (∀ w ∈ wN, va_Nw w U) ∧ va_T .int g.2.2.2.1 g.2.2.2.2.length (fun j => .int (g.2.2.2.2.getD j 0)) A U H ∧ g.2.2.2.2.length ≤ 100000 ∧ thr A U H
theorem sg_same {g : GG} {A : Nat → Prop} {u U : State} {H : Heap} (h : u.vm = U.vm) (hg : sg g A u H) : sg g A U H := by
  have ha : u.vm.Alike U.vm := by rw [h]; exact Vm.Alike.refl _
  exact ⟨fun k hk => ⟨(hg.1 k hk).1.moved ha, (hg.1 k hk).2.moved ha⟩, fun w hw => va_Nw.same (nest_tab (wN_nest hw)) h (hg.2.1 w hw), hg.2.2.1.moved ha, hg.2.2.2.1, thr_same h hg.2.2.2.2⟩
theorem sg_callee {g : GG} {A B : Nat → Prop} {s U : State} {H : Heap} {locs : List Loc} (hW : s.WarmedH U.vm) (h : sg g A s s.heap) (hS : va_S A s.heap H locs) (hAB : ∀ q, B q → A q) : sg g B U H :=
  ⟨fun k hk => ⟨(((h.1 k hk).1.kept hS.2.1).narrow hAB).moved hW.alike, (((h.1 k hk).2.kept hS.2.1).narrow hAB).moved hW.alike⟩, fun w hw => nest_warm (wN_nest hw) hW (h.2.1 w hw), ((h.2.2.1.kept hS.2.1).narrow hAB).moved hW.alike, h.2.2.2.1, thr_callee hW h.2.2.2.2 hS hAB⟩
/-! THE V LAYER: a walk's judgement with the world and the locals as lists -/
theorem vv_fm {α β : Type} (f : α → Option β) : ∀ (is : List α) (w : List β), is.map f = w.map some → is.filterMap f = w
  | [], [], _ => rfl
  | [], _ :: _, h => by simp at h
  | _ :: _, [], h => by simp at h
  | i :: is, x :: w, h => by
    simp only [List.map_cons, List.cons.injEq] at h
    rw [List.filterMap_cons, h.1, vv_fm f is w h.2]
/-- what is fixed over a method's walk -/
def Fx (p : Program) (s : State) (m : MethodId) (args : Array Value) (meth : Method) (c : Code) (cc : ByteArray) (nL : Nat) (own : String) (g : GG) (A : Nat → Prop) : Prop :=
  p.tables.exec = Jvm.exec ∧ c.code = cc ∧ c.maxLocals = nL ∧ s.vm.findClass own = some m.cls ∧ (∀ w ∈ wT, w.before args s = true) ∧ va_K g.1 vwCl (tyL g) s ∧ (∀ q : Nat, s.heap.size ≤ q → A q) ∧ meth.locks = false ∧ sg g A s s.heap
/-- the machine comes from here to Q, from every heap that holds the world ws -/
def V (p : Program) (l : Launch) (e : Env) (R : Room) (s : State) (m : MethodId) (args : Array Value) (below : List Frame) (meth : Method) (c : Code) (nL : Nat) (g : GG) (A : Nat → Prop) (Q : State → Prop) (ws : va_W) (cells slots : Nat) (lv : List (Nat × Value)) (pc : Nat) (st : List Value) : Prop :=
  ∀ (H : Heap) (locs : List Loc) (ls : Array Slot), va_P g.1 vwCl ws H → va_D A ws → va_S A s.heap H locs → lv_has ls nL lv → W p l e R s m args below meth c H locs cells slots Q (F0 m pc ls st)
section VLayer
variable {p : Program} {l : Launch} {e : Env} {R : Room} {s : State} {m : MethodId} {args : Array Value} {below : List Frame} {meth : Method} {c : Code} {cc : ByteArray} {nL : Nat} {own : String} {g : GG} {A : Nat → Prop} {Q : State → Prop} {ws : va_W} {cells slots : Nat} {lv : List (Nat × Value)} {pc pn : Nat} {st : List Value}

theorem Fx.hx (fx : Fx p s m args meth c cc nL own g A) : p.tables.exec = Jvm.exec := fx.1
theorem Fx.hb (fx : Fx p s m args meth c cc nL own g A) : c.code = cc := fx.2.1
theorem Fx.hml (fx : Fx p s m args meth c cc nL own g A) : c.maxLocals = nL := fx.2.2.1
theorem Fx.hown (fx : Fx p s m args meth c cc nL own g A) : s.vm.findClass own = some m.cls := fx.2.2.2.1
theorem Fx.hts (fx : Fx p s m args meth c cc nL own g A) : ∀ w ∈ wT, w.before args s = true := fx.2.2.2.2.1
theorem Fx.hK (fx : Fx p s m args meth c cc nL own g A) : va_K g.1 vwCl (tyL g) s := fx.2.2.2.2.2.1
theorem Fx.hA (fx : Fx p s m args meth c cc nL own g A) : ∀ q : Nat, s.heap.size ≤ q → A q := fx.2.2.2.2.2.2.1
theorem Fx.hlk (fx : Fx p s m args meth c cc nL own g A) : meth.locks = false := fx.2.2.2.2.2.2.2.1
theorem Fx.hsg (fx : Fx p s m args meth c cc nL own g A) : sg g A s s.heap := fx.2.2.2.2.2.2.2.2
theorem Fx.fix (fx : Fx p s m args meth c cc nL own g A) : CallFix p m c cc nL s args wT own := ⟨fx.1, fx.2.1, fx.2.2.1, fx.2.2.2.1, fx.2.2.2.2.1⟩
theorem v_iconst (fx : Fx p s m args meth c cc nL own g A) {n : Int} (hdg : decode cc pc = .ok (.iconst n, 1)) (hpn : pc + 1 = pn) (k : V p l e R s m args below meth c nL g A Q (ws) (cells) (slots) (lv) (pn) (.int (iI n) :: st)) : V p l e R s m args below meth c nL g A Q (ws) (cells) (slots) (lv) (pc) (st) := by
  subst hpn
  intro H locs ls hP hD hS hl
  exact lv_iconst fx.hx fx.hb hdg rfl (k H locs ls hP hD hS hl)
theorem v_bipush (fx : Fx p s m args meth c cc nL own g A) {n : Int} (hdg : decode cc pc = .ok (.bipush n, 2)) (hn : (Int8.ofInt n).toInt32 = iI n) (hpn : pc + 2 = pn) (k : V p l e R s m args below meth c nL g A Q (ws) (cells) (slots) (lv) (pn) (.int (iI n) :: st)) : V p l e R s m args below meth c nL g A Q (ws) (cells) (slots) (lv) (pc) (st) := by
  subst hpn
  intro H locs ls hP hD hS hl
  exact lv_bipush fx.hx fx.hb hdg hn (k H locs ls hP hD hS hl)
theorem v_sipush (fx : Fx p s m args meth c cc nL own g A) {n : Int} (hdg : decode cc pc = .ok (.sipush n, 3)) (hn : (Int16.ofInt n).toInt32 = iI n) (hpn : pc + 3 = pn) (k : V p l e R s m args below meth c nL g A Q (ws) (cells) (slots) (lv) (pn) (.int (iI n) :: st)) : V p l e R s m args below meth c nL g A Q (ws) (cells) (slots) (lv) (pc) (st) := by
  subst hpn
  intro H locs ls hP hD hS hl
  exact lv_sipush fx.hx fx.hb hdg hn (k H locs ls hP hD hS hl)
theorem v_ldc (fx : Fx p s m args meth c cc nL own g A) {i : Nat} {n : Int} (hdg : decode cc pc = .ok (.ldc i, 2)) (hc : Jvm.Cond.constant own i (iI n) ∈ wT) (hpn : pc + 2 = pn) (k : V p l e R s m args below meth c nL g A Q (ws) (cells) (slots) (lv) (pn) (.int (iI n) :: st)) : V p l e R s m args below meth c nL g A Q (ws) (cells) (slots) (lv) (pc) (st) := by
  subst hpn
  intro H locs ls hP hD hS hl
  exact lv_ldc fx.hx fx.hb fx.hown (fx.hts _ hc) hdg (k H locs ls hP hD hS hl)
theorem v_lconst (fx : Fx p s m args meth c cc nL own g A) {n : Fin 2} (v : Int64) (hdg : decode cc pc = .ok (.lconst n, 1)) (hv : Int64.ofNat (n : Nat) = v) (hpn : pc + 1 = pn) (k : V p l e R s m args below meth c nL g A Q (ws) (cells) (slots) (lv) (pn) (.long v :: st)) : V p l e R s m args below meth c nL g A Q (ws) (cells) (slots) (lv) (pc) (st) := by
  subst hpn
  intro H locs ls hP hD hS hl
  exact lv_lconst fx.hx fx.hb hdg hv (k H locs ls hP hD hS hl)
theorem v_iload_n (fx : Fx p s m args meth c cc nL own g A) (q : Nat) {k0 : Fin 4} {x : Int32} (hdg : decode cc pc = .ok (.iload_n k0, 1)) (hq : lv[q]? = some ((k0 : Nat), .int x)) (hpn : pc + 1 = pn) (k : V p l e R s m args below meth c nL g A Q (ws) (cells) (slots) (lv) (pn) (.int x :: st)) : V p l e R s m args below meth c nL g A Q (ws) (cells) (slots) (lv) (pc) (st) := by
  subst hpn
  intro H locs ls hP hD hS hl
  exact lv_iload_n fx.hx fx.hb hdg rfl (lv_at hl q hq) (k H locs ls hP hD hS hl)
theorem v_iload (fx : Fx p s m args meth c cc nL own g A) (q : Nat) {i : Nat} {x : Int32} (hdg : decode cc pc = .ok (.iload i, 2)) (hq : lv[q]? = some (i, .int x)) (hpn : pc + 2 = pn) (k : V p l e R s m args below meth c nL g A Q (ws) (cells) (slots) (lv) (pn) (.int x :: st)) : V p l e R s m args below meth c nL g A Q (ws) (cells) (slots) (lv) (pc) (st) := by
  subst hpn
  intro H locs ls hP hD hS hl
  exact lv_iload fx.hx fx.hb hdg (lv_at hl q hq) (k H locs ls hP hD hS hl)
theorem v_aload_n (fx : Fx p s m args meth c cc nL own g A) (q : Nat) {k0 : Fin 4} {x : Nat} (hdg : decode cc pc = .ok (.aload_n k0, 1)) (hq : lv[q]? = some ((k0 : Nat), .ref x)) (hpn : pc + 1 = pn) (k : V p l e R s m args below meth c nL g A Q (ws) (cells) (slots) (lv) (pn) (.ref x :: st)) : V p l e R s m args below meth c nL g A Q (ws) (cells) (slots) (lv) (pc) (st) := by
  subst hpn
  intro H locs ls hP hD hS hl
  exact lv_aload_n fx.hx fx.hb hdg rfl (lv_at hl q hq) (k H locs ls hP hD hS hl)
theorem v_aload (fx : Fx p s m args meth c cc nL own g A) (q : Nat) {i : Nat} {x : Nat} (hdg : decode cc pc = .ok (.aload i, 2)) (hq : lv[q]? = some (i, .ref x)) (hpn : pc + 2 = pn) (k : V p l e R s m args below meth c nL g A Q (ws) (cells) (slots) (lv) (pn) (.ref x :: st)) : V p l e R s m args below meth c nL g A Q (ws) (cells) (slots) (lv) (pc) (st) := by
  subst hpn
  intro H locs ls hP hD hS hl
  exact lv_aload fx.hx fx.hb hdg (lv_at hl q hq) (k H locs ls hP hD hS hl)
theorem v_istore_n (fx : Fx p s m args meth c cc nL own g A) {k0 : Fin 4} {x : Int32} (lw : List (Nat × Value)) (hdg : decode cc pc = .ok (.istore_n k0, 1)) (hn : (k0 : Nat) < nL) (hl2 : ((k0 : Nat), Value.int x) :: lv.filter (fun q => !(q.1 == (k0 : Nat)) && !(q.1 + 1 == (k0 : Nat) && q.2.category == 2)) = lw) (hpn : pc + 1 = pn) (k : V p l e R s m args below meth c nL g A Q (ws) (cells) (slots) (lw) (pn) (st)) : V p l e R s m args below meth c nL g A Q (ws) (cells) (slots) (lv) (pc) (.int x :: st) := by
  subst hpn
  intro H locs ls hP hD hS hl
  exact lv_istore_n fx.hx fx.hb hdg rfl hl hn hl2 (fun ls hl => k H locs ls hP hD hS hl)
theorem v_istore (fx : Fx p s m args meth c cc nL own g A) {i : Nat} {x : Int32} (lw : List (Nat × Value)) (hdg : decode cc pc = .ok (.istore i, 2)) (hn : i < nL) (hl2 : (i, Value.int x) :: lv.filter (fun q => !(q.1 == i) && !(q.1 + 1 == i && q.2.category == 2)) = lw) (hpn : pc + 2 = pn) (k : V p l e R s m args below meth c nL g A Q (ws) (cells) (slots) (lw) (pn) (st)) : V p l e R s m args below meth c nL g A Q (ws) (cells) (slots) (lv) (pc) (.int x :: st) := by
  subst hpn
  intro H locs ls hP hD hS hl
  exact lv_istore fx.hx fx.hb hdg hl hn hl2 (fun ls hl => k H locs ls hP hD hS hl)
theorem v_astore_n (fx : Fx p s m args meth c cc nL own g A) {k0 : Fin 4} {x : Nat} (lw : List (Nat × Value)) (hdg : decode cc pc = .ok (.astore_n k0, 1)) (hn : (k0 : Nat) < nL) (hl2 : ((k0 : Nat), Value.ref x) :: lv.filter (fun q => !(q.1 == (k0 : Nat)) && !(q.1 + 1 == (k0 : Nat) && q.2.category == 2)) = lw) (hpn : pc + 1 = pn) (k : V p l e R s m args below meth c nL g A Q (ws) (cells) (slots) (lw) (pn) (st)) : V p l e R s m args below meth c nL g A Q (ws) (cells) (slots) (lv) (pc) (.ref x :: st) := by
  subst hpn
  intro H locs ls hP hD hS hl
  exact lv_astore_n fx.hx fx.hb hdg rfl hl hn hl2 (fun ls hl => k H locs ls hP hD hS hl)
theorem v_astore (fx : Fx p s m args meth c cc nL own g A) {i : Nat} {x : Nat} (lw : List (Nat × Value)) (hdg : decode cc pc = .ok (.astore i, 2)) (hn : i < nL) (hl2 : (i, Value.ref x) :: lv.filter (fun q => !(q.1 == i) && !(q.1 + 1 == i && q.2.category == 2)) = lw) (hpn : pc + 2 = pn) (k : V p l e R s m args below meth c nL g A Q (ws) (cells) (slots) (lw) (pn) (st)) : V p l e R s m args below meth c nL g A Q (ws) (cells) (slots) (lv) (pc) (.ref x :: st) := by
  subst hpn
  intro H locs ls hP hD hS hl
  exact lv_astore fx.hx fx.hb hdg hl hn hl2 (fun ls hl => k H locs ls hP hD hS hl)
theorem v_iinc (fx : Fx p s m args meth c cc nL own g A) (q : Nat) {i : Nat} {n a : Int} (b : Int) (lw : List (Nat × Value)) (hdg : decode cc pc = .ok (.iinc i n, 3)) (hq : lv[q]? = some (i, .int (iI a))) (hab : a + n = b) (hn : i < nL) (hl2 : (i, Value.int (iI b)) :: lv.filter (fun q => !(q.1 == i) && !(q.1 + 1 == i && q.2.category == 2)) = lw) (hpn : pc + 3 = pn) (k : V p l e R s m args below meth c nL g A Q (ws) (cells) (slots) (lw) (pn) (st)) : V p l e R s m args below meth c nL g A Q (ws) (cells) (slots) (lv) (pc) (st) := by
  subst hpn
  intro H locs ls hP hD hS hl
  exact lv_iinc fx.hx fx.hb hdg hl hq (by show iI a + iI n = iI b; rw [iI_add, hab]) hn hl2 (fun ls hl => k H locs ls hP hD hS hl)
theorem v_iincW (fx : Fx p s m args meth c cc nL own g A) (q : Nat) {i : Nat} {n a : Int} (b : Int) (lw : List (Nat × Value)) (hdg : decode cc pc = .ok (.iinc i n, 6)) (hq : lv[q]? = some (i, .int (iI a))) (hab : a + n = b) (hn : i < nL) (hl2 : (i, Value.int (iI b)) :: lv.filter (fun q => !(q.1 == i) && !(q.1 + 1 == i && q.2.category == 2)) = lw) (hpn : pc + 6 = pn) (k : V p l e R s m args below meth c nL g A Q (ws) (cells) (slots) (lw) (pn) (st)) : V p l e R s m args below meth c nL g A Q (ws) (cells) (slots) (lv) (pc) (st) := by
  subst hpn
  intro H locs ls hP hD hS hl
  exact lv_iincW fx.hx fx.hb hdg hl hq (by show iI a + iI n = iI b; rw [iI_add, hab]) hn hl2 (fun ls hl => k H locs ls hP hD hS hl)
theorem v_iadd (fx : Fx p s m args meth c cc nL own g A) {a b : Int} (z : Int) (hdg : decode cc pc = .ok (.iadd, 1)) (hz : a + b = z) (hpn : pc + 1 = pn) (k : V p l e R s m args below meth c nL g A Q (ws) (cells) (slots) (lv) (pn) (.int (iI z) :: st)) : V p l e R s m args below meth c nL g A Q (ws) (cells) (slots) (lv) (pc) (.int (iI b) :: .int (iI a) :: st) := by
  subst hpn
  intro H locs ls hP hD hS hl
  exact lv_iadd fx.hx fx.hb hdg (by rw [iI_add, hz]; exact (k H locs ls hP hD hS hl))
theorem v_iaddR (fx : Fx p s m args meth c cc nL own g A) {x y : Int32} (v : Int32) (hdg : decode cc pc = .ok (.iadd, 1)) (hz : x + y = v) (hpn : pc + 1 = pn) (k : V p l e R s m args below meth c nL g A Q (ws) (cells) (slots) (lv) (pn) (.int v :: st)) : V p l e R s m args below meth c nL g A Q (ws) (cells) (slots) (lv) (pc) (.int y :: .int x :: st) := by
  subst hpn
  intro H locs ls hP hD hS hl
  exact lv_iadd fx.hx fx.hb hdg (by rw [hz]; exact (k H locs ls hP hD hS hl))
theorem v_isub (fx : Fx p s m args meth c cc nL own g A) {a b : Int} (z : Int) (hdg : decode cc pc = .ok (.isub, 1)) (hz : a - b = z) (hpn : pc + 1 = pn) (k : V p l e R s m args below meth c nL g A Q (ws) (cells) (slots) (lv) (pn) (.int (iI z) :: st)) : V p l e R s m args below meth c nL g A Q (ws) (cells) (slots) (lv) (pc) (.int (iI b) :: .int (iI a) :: st) := by
  subst hpn
  intro H locs ls hP hD hS hl
  exact lv_isub fx.hx fx.hb hdg (by rw [iI_sub, hz]; exact (k H locs ls hP hD hS hl))
theorem v_isubR (fx : Fx p s m args meth c cc nL own g A) {x y : Int32} (v : Int32) (hdg : decode cc pc = .ok (.isub, 1)) (hz : x - y = v) (hpn : pc + 1 = pn) (k : V p l e R s m args below meth c nL g A Q (ws) (cells) (slots) (lv) (pn) (.int v :: st)) : V p l e R s m args below meth c nL g A Q (ws) (cells) (slots) (lv) (pc) (.int y :: .int x :: st) := by
  subst hpn
  intro H locs ls hP hD hS hl
  exact lv_isub fx.hx fx.hb hdg (by rw [hz]; exact (k H locs ls hP hD hS hl))
theorem v_imul (fx : Fx p s m args meth c cc nL own g A) {a b : Int} (z : Int) (hdg : decode cc pc = .ok (.imul, 1)) (hz : a * b = z) (hpn : pc + 1 = pn) (k : V p l e R s m args below meth c nL g A Q (ws) (cells) (slots) (lv) (pn) (.int (iI z) :: st)) : V p l e R s m args below meth c nL g A Q (ws) (cells) (slots) (lv) (pc) (.int (iI b) :: .int (iI a) :: st) := by
  subst hpn
  intro H locs ls hP hD hS hl
  exact lv_imul fx.hx fx.hb hdg (by rw [iI_mul, hz]; exact (k H locs ls hP hD hS hl))
theorem v_imulR (fx : Fx p s m args meth c cc nL own g A) {x y : Int32} (v : Int32) (hdg : decode cc pc = .ok (.imul, 1)) (hz : x * y = v) (hpn : pc + 1 = pn) (k : V p l e R s m args below meth c nL g A Q (ws) (cells) (slots) (lv) (pn) (.int v :: st)) : V p l e R s m args below meth c nL g A Q (ws) (cells) (slots) (lv) (pc) (.int y :: .int x :: st) := by
  subst hpn
  intro H locs ls hP hD hS hl
  exact lv_imul fx.hx fx.hb hdg (by rw [hz]; exact (k H locs ls hP hD hS hl))
theorem v_ineg (fx : Fx p s m args meth c cc nL own g A) {a : Int} (z : Int) (hdg : decode cc pc = .ok (.ineg, 1)) (hz : -a = z) (hpn : pc + 1 = pn) (k : V p l e R s m args below meth c nL g A Q (ws) (cells) (slots) (lv) (pn) (.int (iI z) :: st)) : V p l e R s m args below meth c nL g A Q (ws) (cells) (slots) (lv) (pc) (.int (iI a) :: st) := by
  subst hpn
  intro H locs ls hP hD hS hl
  exact lv_ineg fx.hx fx.hb hdg (by rw [iI_neg, hz]; exact (k H locs ls hP hD hS hl))
theorem v_iand (fx : Fx p s m args meth c cc nL own g A) {x y : Int32} (v : Int32) (hdg : decode cc pc = .ok (.iand, 1)) (hv : x &&& y = v) (hpn : pc + 1 = pn) (k : V p l e R s m args below meth c nL g A Q (ws) (cells) (slots) (lv) (pn) (.int v :: st)) : V p l e R s m args below meth c nL g A Q (ws) (cells) (slots) (lv) (pc) (.int y :: .int x :: st) := by
  subst hpn
  intro H locs ls hP hD hS hl
  exact lv_iand fx.hx fx.hb hdg (by rw [hv]; exact (k H locs ls hP hD hS hl))
theorem v_ior (fx : Fx p s m args meth c cc nL own g A) {x y : Int32} (v : Int32) (hdg : decode cc pc = .ok (.ior, 1)) (hv : x ||| y = v) (hpn : pc + 1 = pn) (k : V p l e R s m args below meth c nL g A Q (ws) (cells) (slots) (lv) (pn) (.int v :: st)) : V p l e R s m args below meth c nL g A Q (ws) (cells) (slots) (lv) (pc) (.int y :: .int x :: st) := by
  subst hpn
  intro H locs ls hP hD hS hl
  exact lv_ior fx.hx fx.hb hdg (by rw [hv]; exact (k H locs ls hP hD hS hl))
theorem v_ixor (fx : Fx p s m args meth c cc nL own g A) {x y : Int32} (v : Int32) (hdg : decode cc pc = .ok (.ixor, 1)) (hv : x ^^^ y = v) (hpn : pc + 1 = pn) (k : V p l e R s m args below meth c nL g A Q (ws) (cells) (slots) (lv) (pn) (.int v :: st)) : V p l e R s m args below meth c nL g A Q (ws) (cells) (slots) (lv) (pc) (.int y :: .int x :: st) := by
  subst hpn
  intro H locs ls hP hD hS hl
  exact lv_ixor fx.hx fx.hb hdg (by rw [hv]; exact (k H locs ls hP hD hS hl))
theorem v_ishl (fx : Fx p s m args meth c cc nL own g A) {x y : Int32} (v : Int32) (hdg : decode cc pc = .ok (.ishl, 1)) (hv : x <<< (y &&& 31) = v) (hpn : pc + 1 = pn) (k : V p l e R s m args below meth c nL g A Q (ws) (cells) (slots) (lv) (pn) (.int v :: st)) : V p l e R s m args below meth c nL g A Q (ws) (cells) (slots) (lv) (pc) (.int y :: .int x :: st) := by
  subst hpn
  intro H locs ls hP hD hS hl
  exact lv_ishl fx.hx fx.hb hdg (by rw [hv]; exact (k H locs ls hP hD hS hl))
theorem v_ishr (fx : Fx p s m args meth c cc nL own g A) {x y : Int32} (v : Int32) (hdg : decode cc pc = .ok (.ishr, 1)) (hv : x >>> (y &&& 31) = v) (hpn : pc + 1 = pn) (k : V p l e R s m args below meth c nL g A Q (ws) (cells) (slots) (lv) (pn) (.int v :: st)) : V p l e R s m args below meth c nL g A Q (ws) (cells) (slots) (lv) (pc) (.int y :: .int x :: st) := by
  subst hpn
  intro H locs ls hP hD hS hl
  exact lv_ishr fx.hx fx.hb hdg (by rw [hv]; exact (k H locs ls hP hD hS hl))
theorem v_iushr (fx : Fx p s m args meth c cc nL own g A) {x y : Int32} (v : Int32) (hdg : decode cc pc = .ok (.iushr, 1)) (hv : (x.toUInt32 >>> (y.toUInt32 &&& Int32.toUInt32 31)).toInt32 = v) (hpn : pc + 1 = pn) (k : V p l e R s m args below meth c nL g A Q (ws) (cells) (slots) (lv) (pn) (.int v :: st)) : V p l e R s m args below meth c nL g A Q (ws) (cells) (slots) (lv) (pc) (.int y :: .int x :: st) := by
  subst hpn
  intro H locs ls hP hD hS hl
  exact lv_iushr fx.hx fx.hb hdg hv (k H locs ls hP hD hS hl)
theorem v_i2b (fx : Fx p s m args meth c cc nL own g A) {x : Int32} (v : Int32) (hdg : decode cc pc = .ok (.i2b, 1)) (hv : x.toInt8.toInt32 = v) (hpn : pc + 1 = pn) (k : V p l e R s m args below meth c nL g A Q (ws) (cells) (slots) (lv) (pn) (.int v :: st)) : V p l e R s m args below meth c nL g A Q (ws) (cells) (slots) (lv) (pc) (.int x :: st) := by
  subst hpn
  intro H locs ls hP hD hS hl
  exact lv_i2b fx.hx fx.hb hdg hv (k H locs ls hP hD hS hl)
theorem v_i2l (fx : Fx p s m args meth c cc nL own g A) {x : Int32} (v : Int64) (hdg : decode cc pc = .ok (.i2l, 1)) (hv : x.toInt64 = v) (hpn : pc + 1 = pn) (k : V p l e R s m args below meth c nL g A Q (ws) (cells) (slots) (lv) (pn) (.long v :: st)) : V p l e R s m args below meth c nL g A Q (ws) (cells) (slots) (lv) (pc) (.int x :: st) := by
  subst hpn
  intro H locs ls hP hD hS hl
  exact lv_i2l fx.hx fx.hb hdg hv (k H locs ls hP hD hS hl)
theorem v_idiv (fx : Fx p s m args meth c cc nL own g A) {x y : Int32} (v : Int32) (hdg : decode cc pc = .ok (.idiv, 1)) (hne : ¬ y = 0) (hv : x / y = v) (hpn : pc + 1 = pn) (k : V p l e R s m args below meth c nL g A Q (ws) (cells) (slots) (lv) (pn) (.int v :: st)) : V p l e R s m args below meth c nL g A Q (ws) (cells) (slots) (lv) (pc) (.int y :: .int x :: st) := by
  subst hpn
  intro H locs ls hP hD hS hl
  exact lv_idiv fx.hx fx.hb hdg hne (by rw [hv]; exact (k H locs ls hP hD hS hl))
theorem v_irem (fx : Fx p s m args meth c cc nL own g A) {x y : Int32} (v : Int32) (hdg : decode cc pc = .ok (.irem, 1)) (hne : ¬ y = 0) (hv : x - x / y * y = v) (hpn : pc + 1 = pn) (k : V p l e R s m args below meth c nL g A Q (ws) (cells) (slots) (lv) (pn) (.int v :: st)) : V p l e R s m args below meth c nL g A Q (ws) (cells) (slots) (lv) (pc) (.int y :: .int x :: st) := by
  subst hpn
  intro H locs ls hP hD hS hl
  exact lv_irem fx.hx fx.hb hdg hne (by rw [hv]; exact (k H locs ls hP hD hS hl))
theorem v_any {x : Int32} (k : ∀ z : Int, -2147483648 ≤ z ∧ z < 2147483648 → x = iI z → V p l e R s m args below meth c nL g A Q (ws) (cells) (slots) (lv) (pc) (.int (iI z) :: st)) : V p l e R s m args below meth c nL g A Q (ws) (cells) (slots) (lv) (pc) (.int x :: st) := by
  obtain ⟨z, hz, rfl⟩ := iI_any x
  exact k z hz rfl
theorem v_top {x : Int32} (v : Int32) (h : x = v) (k : V p l e R s m args below meth c nL g A Q (ws) (cells) (slots) (lv) (pc) (.int v :: st)) : V p l e R s m args below meth c nL g A Q (ws) (cells) (slots) (lv) (pc) (.int x :: st) := by rw [h]; exact k
theorem v_dup (fx : Fx p s m args meth c cc nL own g A) {va : Value} (hdg : decode cc pc = .ok (.dup, 1)) (hva : va.category = 1) (hpn : pc + 1 = pn) (k : V p l e R s m args below meth c nL g A Q (ws) (cells) (slots) (lv) (pn) (va :: va :: st)) : V p l e R s m args below meth c nL g A Q (ws) (cells) (slots) (lv) (pc) (va :: st) := by
  subst hpn
  intro H locs ls hP hD hS hl
  exact lv_dup fx.hx fx.hb hdg hva (k H locs ls hP hD hS hl)
theorem v_pop (fx : Fx p s m args meth c cc nL own g A) {va : Value} (hdg : decode cc pc = .ok (.pop, 1)) (hva : va.category = 1) (hpn : pc + 1 = pn) (k : V p l e R s m args below meth c nL g A Q (ws) (cells) (slots) (lv) (pn) (st)) : V p l e R s m args below meth c nL g A Q (ws) (cells) (slots) (lv) (pc) (va :: st) := by
  subst hpn
  intro H locs ls hP hD hS hl
  exact lv_pop fx.hx fx.hb hdg hva (k H locs ls hP hD hS hl)
theorem v_dup_x1 (fx : Fx p s m args meth c cc nL own g A) {va vb : Value} (hdg : decode cc pc = .ok (.dup_x1, 1)) (hva : va.category = 1) (hvb : vb.category = 1) (hpn : pc + 1 = pn) (k : V p l e R s m args below meth c nL g A Q (ws) (cells) (slots) (lv) (pn) (va :: vb :: va :: st)) : V p l e R s m args below meth c nL g A Q (ws) (cells) (slots) (lv) (pc) (va :: vb :: st) := by
  subst hpn
  intro H locs ls hP hD hS hl
  exact lv_dup_x1 fx.hx fx.hb hdg hva hvb (k H locs ls hP hD hS hl)
theorem v_dup2 (fx : Fx p s m args meth c cc nL own g A) {va vb : Value} (hdg : decode cc pc = .ok (.dup2, 1)) (hva : va.category = 1) (hvb : vb.category = 1) (hpn : pc + 1 = pn) (k : V p l e R s m args below meth c nL g A Q (ws) (cells) (slots) (lv) (pn) (va :: vb :: va :: vb :: st)) : V p l e R s m args below meth c nL g A Q (ws) (cells) (slots) (lv) (pc) (va :: vb :: st) := by
  subst hpn
  intro H locs ls hP hD hS hl
  exact lv_dup2_11 fx.hx fx.hb hdg hva hvb (k H locs ls hP hD hS hl)
theorem v_icmp_lt (fx : Fx p s m args meth c cc nL own g A) {a b : Int} {off : Int} (tgt : Nat) (hdg : decode cc pc = .ok (.if_icmp .lt off, 3)) (ht : (pc : Int) + off = (tgt : Int)) (hpn : pc + 3 = pn) (ha : -2147483648 ≤ a ∧ a < 2147483648) (hb : -2147483648 ≤ b ∧ b < 2147483648) (kt : a < b → V p l e R s m args below meth c nL g A Q (ws) (cells) (slots) (lv) (tgt) (st)) (kf : b ≤ a → V p l e R s m args below meth c nL g A Q (ws) (cells) (slots) (lv) (pn) (st)) : V p l e R s m args below meth c nL g A Q (ws) (cells) (slots) (lv) (pc) (.int (iI b) :: .int (iI a) :: st) := by
  subst hpn
  intro H locs ls hP hD hS hl
  exact lv_icmp_lt fx.hx fx.hb hdg ht (fun h => kt ((iI_lt ha hb).mp h) H locs ls hP hD hS hl) (fun h => kf (Int.not_lt.mp (mt (iI_lt ha hb).mpr h)) H locs ls hP hD hS hl)
theorem v_if_lt (fx : Fx p s m args meth c cc nL own g A) {a : Int} {off : Int} (tgt : Nat) (hdg : decode cc pc = .ok (.ifCond .lt off, 3)) (ht : (pc : Int) + off = (tgt : Int)) (hpn : pc + 3 = pn) (ha : -2147483648 ≤ a ∧ a < 2147483648) (kt : a < 0 → V p l e R s m args below meth c nL g A Q (ws) (cells) (slots) (lv) (tgt) (st)) (kf : 0 ≤ a → V p l e R s m args below meth c nL g A Q (ws) (cells) (slots) (lv) (pn) (st)) : V p l e R s m args below meth c nL g A Q (ws) (cells) (slots) (lv) (pc) (.int (iI a) :: st) := by
  subst hpn
  intro H locs ls hP hD hS hl
  have hb : -2147483648 ≤ (0 : Int) ∧ (0 : Int) < 2147483648 := by decide
  exact lv_if_lt fx.hx fx.hb hdg ht (fun h => kt ((iI_lt ha hb).mp h) H locs ls hP hD hS hl) (fun h => kf (Int.not_lt.mp (mt (iI_lt ha hb).mpr h)) H locs ls hP hD hS hl)
theorem v_icmp_le (fx : Fx p s m args meth c cc nL own g A) {a b : Int} {off : Int} (tgt : Nat) (hdg : decode cc pc = .ok (.if_icmp .le off, 3)) (ht : (pc : Int) + off = (tgt : Int)) (hpn : pc + 3 = pn) (ha : -2147483648 ≤ a ∧ a < 2147483648) (hb : -2147483648 ≤ b ∧ b < 2147483648) (kt : a ≤ b → V p l e R s m args below meth c nL g A Q (ws) (cells) (slots) (lv) (tgt) (st)) (kf : b < a → V p l e R s m args below meth c nL g A Q (ws) (cells) (slots) (lv) (pn) (st)) : V p l e R s m args below meth c nL g A Q (ws) (cells) (slots) (lv) (pc) (.int (iI b) :: .int (iI a) :: st) := by
  subst hpn
  intro H locs ls hP hD hS hl
  exact lv_icmp_le fx.hx fx.hb hdg ht (fun h => kt ((iI_le ha hb).mp h) H locs ls hP hD hS hl) (fun h => kf (Int.not_le.mp (mt (iI_le ha hb).mpr h)) H locs ls hP hD hS hl)
theorem v_if_le (fx : Fx p s m args meth c cc nL own g A) {a : Int} {off : Int} (tgt : Nat) (hdg : decode cc pc = .ok (.ifCond .le off, 3)) (ht : (pc : Int) + off = (tgt : Int)) (hpn : pc + 3 = pn) (ha : -2147483648 ≤ a ∧ a < 2147483648) (kt : a ≤ 0 → V p l e R s m args below meth c nL g A Q (ws) (cells) (slots) (lv) (tgt) (st)) (kf : 0 < a → V p l e R s m args below meth c nL g A Q (ws) (cells) (slots) (lv) (pn) (st)) : V p l e R s m args below meth c nL g A Q (ws) (cells) (slots) (lv) (pc) (.int (iI a) :: st) := by
  subst hpn
  intro H locs ls hP hD hS hl
  have hb : -2147483648 ≤ (0 : Int) ∧ (0 : Int) < 2147483648 := by decide
  exact lv_if_le fx.hx fx.hb hdg ht (fun h => kt ((iI_le ha hb).mp h) H locs ls hP hD hS hl) (fun h => kf (Int.not_le.mp (mt (iI_le ha hb).mpr h)) H locs ls hP hD hS hl)
theorem v_icmp_eq (fx : Fx p s m args meth c cc nL own g A) {a b : Int} {off : Int} (tgt : Nat) (hdg : decode cc pc = .ok (.if_icmp .eq off, 3)) (ht : (pc : Int) + off = (tgt : Int)) (hpn : pc + 3 = pn) (ha : -2147483648 ≤ a ∧ a < 2147483648) (hb : -2147483648 ≤ b ∧ b < 2147483648) (kt : a = b → V p l e R s m args below meth c nL g A Q (ws) (cells) (slots) (lv) (tgt) (st)) (kf : a ≠ b → V p l e R s m args below meth c nL g A Q (ws) (cells) (slots) (lv) (pn) (st)) : V p l e R s m args below meth c nL g A Q (ws) (cells) (slots) (lv) (pc) (.int (iI b) :: .int (iI a) :: st) := by
  subst hpn
  intro H locs ls hP hD hS hl
  exact lv_icmp_eq fx.hx fx.hb hdg ht (fun h => kt ((iI_inj ha hb).mp h) H locs ls hP hD hS hl) (fun h => kf (fun q => h ((iI_inj ha hb).mpr q)) H locs ls hP hD hS hl)
theorem v_if_eq (fx : Fx p s m args meth c cc nL own g A) {a : Int} {off : Int} (tgt : Nat) (hdg : decode cc pc = .ok (.ifCond .eq off, 3)) (ht : (pc : Int) + off = (tgt : Int)) (hpn : pc + 3 = pn) (ha : -2147483648 ≤ a ∧ a < 2147483648) (kt : a = 0 → V p l e R s m args below meth c nL g A Q (ws) (cells) (slots) (lv) (tgt) (st)) (kf : a ≠ 0 → V p l e R s m args below meth c nL g A Q (ws) (cells) (slots) (lv) (pn) (st)) : V p l e R s m args below meth c nL g A Q (ws) (cells) (slots) (lv) (pc) (.int (iI a) :: st) := by
  subst hpn
  intro H locs ls hP hD hS hl
  have hb : -2147483648 ≤ (0 : Int) ∧ (0 : Int) < 2147483648 := by decide
  exact lv_if_eq fx.hx fx.hb hdg ht (fun h => kt ((iI_inj ha hb).mp h) H locs ls hP hD hS hl) (fun h => kf (fun q => h ((iI_inj ha hb).mpr q)) H locs ls hP hD hS hl)
theorem v_icmp_ne (fx : Fx p s m args meth c cc nL own g A) {a b : Int} {off : Int} (tgt : Nat) (hdg : decode cc pc = .ok (.if_icmp .ne off, 3)) (ht : (pc : Int) + off = (tgt : Int)) (hpn : pc + 3 = pn) (ha : -2147483648 ≤ a ∧ a < 2147483648) (hb : -2147483648 ≤ b ∧ b < 2147483648) (kt : a ≠ b → V p l e R s m args below meth c nL g A Q (ws) (cells) (slots) (lv) (tgt) (st)) (kf : a = b → V p l e R s m args below meth c nL g A Q (ws) (cells) (slots) (lv) (pn) (st)) : V p l e R s m args below meth c nL g A Q (ws) (cells) (slots) (lv) (pc) (.int (iI b) :: .int (iI a) :: st) := by
  subst hpn
  intro H locs ls hP hD hS hl
  exact lv_icmp_ne fx.hx fx.hb hdg ht (fun h => kt (fun q => h ((iI_inj ha hb).mpr q)) H locs ls hP hD hS hl) (fun h => kf ((iI_inj ha hb).mp h) H locs ls hP hD hS hl)
theorem v_if_ne (fx : Fx p s m args meth c cc nL own g A) {a : Int} {off : Int} (tgt : Nat) (hdg : decode cc pc = .ok (.ifCond .ne off, 3)) (ht : (pc : Int) + off = (tgt : Int)) (hpn : pc + 3 = pn) (ha : -2147483648 ≤ a ∧ a < 2147483648) (kt : a ≠ 0 → V p l e R s m args below meth c nL g A Q (ws) (cells) (slots) (lv) (tgt) (st)) (kf : a = 0 → V p l e R s m args below meth c nL g A Q (ws) (cells) (slots) (lv) (pn) (st)) : V p l e R s m args below meth c nL g A Q (ws) (cells) (slots) (lv) (pc) (.int (iI a) :: st) := by
  subst hpn
  intro H locs ls hP hD hS hl
  have hb : -2147483648 ≤ (0 : Int) ∧ (0 : Int) < 2147483648 := by decide
  exact lv_if_ne fx.hx fx.hb hdg ht (fun h => kt (fun q => h ((iI_inj ha hb).mpr q)) H locs ls hP hD hS hl) (fun h => kf ((iI_inj ha hb).mp h) H locs ls hP hD hS hl)
theorem v_icmp_gt (fx : Fx p s m args meth c cc nL own g A) {a b : Int} {off : Int} (tgt : Nat) (hdg : decode cc pc = .ok (.if_icmp .gt off, 3)) (ht : (pc : Int) + off = (tgt : Int)) (hpn : pc + 3 = pn) (ha : -2147483648 ≤ a ∧ a < 2147483648) (hb : -2147483648 ≤ b ∧ b < 2147483648) (kt : b < a → V p l e R s m args below meth c nL g A Q (ws) (cells) (slots) (lv) (tgt) (st)) (kf : a ≤ b → V p l e R s m args below meth c nL g A Q (ws) (cells) (slots) (lv) (pn) (st)) : V p l e R s m args below meth c nL g A Q (ws) (cells) (slots) (lv) (pc) (.int (iI b) :: .int (iI a) :: st) := by
  subst hpn
  intro H locs ls hP hD hS hl
  exact lv_icmp_gt fx.hx fx.hb hdg ht (fun h => kt ((iI_lt hb ha).mp h) H locs ls hP hD hS hl) (fun h => kf (Int.not_lt.mp (mt (iI_lt hb ha).mpr h)) H locs ls hP hD hS hl)
theorem v_if_gt (fx : Fx p s m args meth c cc nL own g A) {a : Int} {off : Int} (tgt : Nat) (hdg : decode cc pc = .ok (.ifCond .gt off, 3)) (ht : (pc : Int) + off = (tgt : Int)) (hpn : pc + 3 = pn) (ha : -2147483648 ≤ a ∧ a < 2147483648) (kt : 0 < a → V p l e R s m args below meth c nL g A Q (ws) (cells) (slots) (lv) (tgt) (st)) (kf : a ≤ 0 → V p l e R s m args below meth c nL g A Q (ws) (cells) (slots) (lv) (pn) (st)) : V p l e R s m args below meth c nL g A Q (ws) (cells) (slots) (lv) (pc) (.int (iI a) :: st) := by
  subst hpn
  intro H locs ls hP hD hS hl
  have hb : -2147483648 ≤ (0 : Int) ∧ (0 : Int) < 2147483648 := by decide
  exact lv_if_gt fx.hx fx.hb hdg ht (fun h => kt ((iI_lt hb ha).mp h) H locs ls hP hD hS hl) (fun h => kf (Int.not_lt.mp (mt (iI_lt hb ha).mpr h)) H locs ls hP hD hS hl)
theorem v_icmp_ge (fx : Fx p s m args meth c cc nL own g A) {a b : Int} {off : Int} (tgt : Nat) (hdg : decode cc pc = .ok (.if_icmp .ge off, 3)) (ht : (pc : Int) + off = (tgt : Int)) (hpn : pc + 3 = pn) (ha : -2147483648 ≤ a ∧ a < 2147483648) (hb : -2147483648 ≤ b ∧ b < 2147483648) (kt : b ≤ a → V p l e R s m args below meth c nL g A Q (ws) (cells) (slots) (lv) (tgt) (st)) (kf : a < b → V p l e R s m args below meth c nL g A Q (ws) (cells) (slots) (lv) (pn) (st)) : V p l e R s m args below meth c nL g A Q (ws) (cells) (slots) (lv) (pc) (.int (iI b) :: .int (iI a) :: st) := by
  subst hpn
  intro H locs ls hP hD hS hl
  exact lv_icmp_ge fx.hx fx.hb hdg ht (fun h => kt ((iI_le hb ha).mp h) H locs ls hP hD hS hl) (fun h => kf (Int.not_le.mp (mt (iI_le hb ha).mpr h)) H locs ls hP hD hS hl)
theorem v_if_ge (fx : Fx p s m args meth c cc nL own g A) {a : Int} {off : Int} (tgt : Nat) (hdg : decode cc pc = .ok (.ifCond .ge off, 3)) (ht : (pc : Int) + off = (tgt : Int)) (hpn : pc + 3 = pn) (ha : -2147483648 ≤ a ∧ a < 2147483648) (kt : 0 ≤ a → V p l e R s m args below meth c nL g A Q (ws) (cells) (slots) (lv) (tgt) (st)) (kf : a < 0 → V p l e R s m args below meth c nL g A Q (ws) (cells) (slots) (lv) (pn) (st)) : V p l e R s m args below meth c nL g A Q (ws) (cells) (slots) (lv) (pc) (.int (iI a) :: st) := by
  subst hpn
  intro H locs ls hP hD hS hl
  have hb : -2147483648 ≤ (0 : Int) ∧ (0 : Int) < 2147483648 := by decide
  exact lv_if_ge fx.hx fx.hb hdg ht (fun h => kt ((iI_le hb ha).mp h) H locs ls hP hD hS hl) (fun h => kf (Int.not_le.mp (mt (iI_le hb ha).mpr h)) H locs ls hP hD hS hl)
theorem v_goto (fx : Fx p s m args meth c cc nL own g A) (tgt : Nat) {off : Int} (hdg : decode cc pc = .ok (.goto off, 3)) (ht : (pc : Int) + off = (tgt : Int)) (k : V p l e R s m args below meth c nL g A Q (ws) (cells) (slots) (lv) (tgt) (st)) : V p l e R s m args below meth c nL g A Q (ws) (cells) (slots) (lv) (pc) (st) := by
  intro H locs ls hP hD hS hl
  exact lv_goto fx.hx fx.hb hdg ht (k H locs ls hP hD hS hl)
theorem v_lv (ks : List Nat) (lw : List (Nat × Value)) (h : lv_pick lv ks = lw) (k : V p l e R s m args below meth c nL g A Q (ws) (cells) (slots) (lw) (pc) (st)) : V p l e R s m args below meth c nL g A Q (ws) (cells) (slots) (lv) (pc) (st) := fun H locs ls hP hD hS hl => k H locs ls hP hD hS (lv_sub hl ks h)
theorem v_ws (is : List Nat) (wn : va_W) (hn : va_nd is = true) (h : is.map (fun i => ws[i]?) = wn.map some) (k : V p l e R s m args below meth c nL g A Q (wn) (cells) (slots) (lv) (pc) (st)) : V p l e R s m args below meth c nL g A Q (ws) (cells) (slots) (lv) (pc) (st) := fun H locs ls hP hD hS hl => k H locs ls (hP.sub is (vv_fm _ _ _ h)) (hD.sub is hn h) hS hl
theorem v_widen (kc ks : Nat) (h1 : cells ≤ kc) (h2 : slots ≤ ks) (k : V p l e R s m args below meth c nL g A Q (ws) (kc) (ks) (lv) (pc) (st)) : V p l e R s m args below meth c nL g A Q (ws) (cells) (slots) (lv) (pc) (st) := fun H locs ls hP hD hS hl => W.widen h1 h2 (k H locs ls hP hD hS hl)
theorem v_is {wn : va_W} {cn sn : Nat} {sn2 : List Value} (h1 : ws = wn) (h2 : cells = cn) (h3 : slots = sn) (h4 : st = sn2) (k : V p l e R s m args below meth c nL g A Q (wn) (cn) (sn) (lv) (pc) (sn2)) : V p l e R s m args below meth c nL g A Q (ws) (cells) (slots) (lv) (pc) (st) := by subst h1; subst h2; subst h3; subst h4; exact k
theorem v_get (fx : Fx p s m args meth c cc nL own g A) {ref C : String} {T : u_T} {N ci index a : Nat} (q0 k0 : Nat) {fs : List Value} {v : Value} (hin : ∀ w ∈ u_ws C T N, w ∈ wT) (hlink : Cond.fieldLink own index ref (T k0).2.1 (T k0).2.2.1 ∈ wT) (hdg : decode cc pc = .ok (.getfield index, 3)) (he : ws[q0]? = some (a, .inr (ci, fs))) (hc : vwCl[ci]? = some (C, T, N)) (hk : k0 < N) (href : (T k0).1 = ref) (hv : fs[k0]? = some v) (hpn : pc + 3 = pn) (k : V p l e R s m args below meth c nL g A Q (ws) (cells) (slots) (lv) (pn) (v :: st)) : V p l e R s m args below meth c nL g A Q (ws) (cells) (slots) (lv) (pc) (.ref a :: st) := by
  subst hpn
  intro H locs ls hP hD hS hl
  exact va_get fx.hx fx.hb fx.hts hin fx.hown fx.hK hP q0 he hc k0 hk (fx.hts _ hlink) (fun x h => by rw [← href]; exact h) hv hdg (k H locs ls hP hD hS hl)
theorem v_put (fx : Fx p s m args meth c cc nL own g A) {ref C : String} {T : u_T} {N ci index a : Nat} (q0 k0 : Nat) {fs : List Value} {v : Value} {ty0 : Nat → FieldType} (wn : va_W) (hin : ∀ w ∈ u_ws C T N, w ∈ wT) (hty : ∀ k, k < N → parseFieldDescriptor (T k).2.2.1 = some (ty0 k)) (hnm : ∀ a, a < N → ∀ b, b < N → a ≠ b → (T a).2.1 ≠ (T b).2.1) (hlink : Cond.fieldLink own index ref (T k0).2.1 (T k0).2.2.1 ∈ wT) (hdg : decode cc pc = .ok (.putfield index, 3)) (he : ws[q0]? = some (a, .inr (ci, fs))) (hc : vwCl[ci]? = some (C, T, N)) (hk : k0 < N) (href : (T k0).1 = ref) (hfin : (T k0).2.2.2 = false) (hn : narrow (ty0 k0) v = v) (hfit : fits (ty0 k0) v = true) (hl0 : k0 < fs.length) (hw : ws.set q0 (a, .inr (ci, fs.set k0 v)) = wn) (hpn : pc + 3 = pn) (k : V p l e R s m args below meth c nL g A Q (wn) (cells) (slots) (lv) (pn) (st)) : V p l e R s m args below meth c nL g A Q (ws) (cells) (slots) (lv) (pc) (v :: .ref a :: st) := by
  subst hpn; subst hw
  intro H locs ls hP hD hS hl
  exact va_put fx.hx fx.hb fx.hts hin ty0 hty hnm fx.hown fx.hK hP hD hS q0 he hc k0 hk (fx.hts _ hlink) (fun x h => by rw [← href]; exact h) hfin (hty k0 hk) hn hfit hl0 hdg (fun H1 locs1 hP1 hD1 hS1 => k H1 locs1 ls hP1 hD1 hS1 hl)
theorem v_putF (fx : Fx p s m args meth c cc nL own g A) {ref C : String} {T : u_T} {N ci index a : Nat} (q0 k0 : Nat) {fs : List Value} {v : Value} {ty0 : Nat → FieldType} (wn : va_W) (hin2 : meth.name = "<init>") (hin : ∀ w ∈ u_ws C T N, w ∈ wT) (hty : ∀ k, k < N → parseFieldDescriptor (T k).2.2.1 = some (ty0 k)) (hnm : ∀ a, a < N → ∀ b, b < N → a ≠ b → (T a).2.1 ≠ (T b).2.1) (hlink : Cond.fieldLink own index ref (T k0).2.1 (T k0).2.2.1 ∈ wT) (hdg : decode cc pc = .ok (.putfield index, 3)) (he : ws[q0]? = some (a, .inr (ci, fs))) (hc : vwCl[ci]? = some (C, T, N)) (hk : k0 < N) (href : (T k0).1 = ref) (hfin : (T k0).2.2.2 = true) (hdecl : (T k0).1 = own) (hn : narrow (ty0 k0) v = v) (hfit : fits (ty0 k0) v = true) (hl0 : k0 < fs.length) (hw : ws.set q0 (a, .inr (ci, fs.set k0 v)) = wn) (hpn : pc + 3 = pn) (k : V p l e R s m args below meth c nL g A Q (wn) (cells) (slots) (lv) (pn) (st)) : V p l e R s m args below meth c nL g A Q (ws) (cells) (slots) (lv) (pc) (v :: .ref a :: st) := by
  subst hpn; subst hw
  intro H locs ls hP hD hS hl
  exact va_putF fx.hx fx.hb fx.hts hin ty0 hty hnm fx.hown fx.hK hP hD hS q0 he hc k0 hk (fx.hts _ hlink) (fun x h => by rw [← href]; exact h) hfin hin2 hdecl (hty k0 hk) hn hfit hl0 hdg (fun H1 locs1 hP1 hD1 hS1 => k H1 locs1 ls hP1 hD1 hS1 hl)
theorem v_new (fx : Fx p s m args meth c cc nL own g A) {C : String} {T : u_T} {N ci index : Nat} (fs : List Value) {ty0 : Nat → FieldType} (cn sn : Nat) (hin : ∀ w ∈ u_ws C T N, w ∈ wT) (hty : ∀ k, k < N → parseFieldDescriptor (T k).2.2.1 = some (ty0 k)) (hcl : Cond.classLink own index C ∈ wT) (hinst : Cond.instantiable C N ∈ wT) (hini : Cond.initialized C ∈ wT) (hdg : decode cc pc = .ok (.new index, 3)) (hc : vwCl[ci]? = some (C, T, N)) (hfs : ∀ j, j < N → defaultValue (ty0 j) = vp_V fs j) (hcells : cn ≤ R.cells) (hslots : sn ≤ R.slots) (hcn : cells + 1 = cn) (hsn : slots + N = sn) (hpn : pc + 3 = pn) (k : ∀ q : Nat, V p l e R s m args below meth c nL g A Q (ws ++ [(q, .inr (ci, fs))]) (cn) (sn) (lv) (pn) (.ref q :: st)) : V p l e R s m args below meth c nL g A Q (ws) (cells) (slots) (lv) (pc) (st) := by
  subst hpn; subst hcn; subst hsn
  intro H locs ls hP hD hS hl
  exact va_new fx.hx fx.hb fx.hts hin ty0 hty fx.hown (fx.hts _ hcl) (fx.hts _ hinst) (fx.hts _ hini) fx.hK hP hD hS fx.hA hc hfs hcells hslots hdg (fun q H1 hP1 hD1 hS1 => k q H1 locs ls hP1 hD1 hS1 hl)
theorem v_objInit (fx : Fx p s m args meth c cc nL own g A) {index : Nat} {a : Nat} (hcat : (st.map fun v => v.category).sum ≤ 8) (h1 : Cond.methodLink own index objectInit ∈ wT) (h2 : Cond.instanceMethod objectInit ∈ wT) (h3 : Cond.code objectInit ⟨#[0xb1]⟩ 1 none ∈ wT) (hdg : decode cc pc = .ok (.invokespecial index, 3)) (hf : 1 ≤ R.frames) (hlo : 8 + (1 + 11) ≤ R.locals) (hpn : pc + 3 = pn) (k : V p l e R s m args below meth c nL g A Q (ws) (cells) (slots) (lv) (pn) (st)) : V p l e R s m args below meth c nL g A Q (ws) (cells) (slots) (lv) (pc) (.ref a :: st) := by
  subst hpn
  intro H locs ls hP hD hS hl
  refine W.objInit fx.hx fx.hb fx.hown (fx.hts _ h1) (fx.hts _ h2) (fx.hts _ h3) rfl (by rw [fx.hml]; exact hl.1) rfl hdg hf ?_ (k H locs ls hP hD hS hl)
  first | exact hlo | (have h9 : 2 * (F0 m pc ls (.ref a :: st)).monitorRoom = 0 := rfl
                       omega)
theorem v_iald (fx : Fx p s m args meth c cc nL own g A) {a : Nat} (q0 : Nat) {n : Nat} {f : Nat → Int32} {i : Int} (hdg : decode cc pc = .ok (.iaload, 1)) (ha : ws[q0]? = some (a, aI g n f)) (hi : 0 ≤ i ∧ i < n) (hn : n < 2147483648) (hpn : pc + 1 = pn) (k : V p l e R s m args below meth c nL g A Q (ws) (cells) (slots) (lv) (pn) (.int (f i.toNat) :: st)) : V p l e R s m args below meth c nL g A Q (ws) (cells) (slots) (lv) (pc) (.int (iI i) :: .ref a :: st) := by
  subst hpn
  intro H locs ls hP hD hS hl
  exact va_iald fx.hx fx.hb fx.hK hP q0 0 ha rfl (iI_in hi hn) hdg (by rw [iI_clamp (by omega)]; exact (k H locs ls hP hD hS hl))
theorem v_bald (fx : Fx p s m args meth c cc nL own g A) {a : Nat} (q0 : Nat) {n : Nat} {f : Nat → Int32} {i : Int} (hdg : decode cc pc = .ok (.baload, 1)) (ha : ws[q0]? = some (a, aB g n f)) (hi : 0 ≤ i ∧ i < n) (hn : n < 2147483648) (hpn : pc + 1 = pn) (k : V p l e R s m args below meth c nL g A Q (ws) (cells) (slots) (lv) (pn) (.int (f i.toNat) :: st)) : V p l e R s m args below meth c nL g A Q (ws) (cells) (slots) (lv) (pc) (.int (iI i) :: .ref a :: st) := by
  subst hpn
  intro H locs ls hP hD hS hl
  exact va_bald fx.hx fx.hb fx.hK hP q0 1 ha rfl (iI_in hi hn) hdg (by rw [iI_clamp (by omega)]; exact (k H locs ls hP hD hS hl))
theorem v_zald (fx : Fx p s m args meth c cc nL own g A) {a : Nat} (q0 : Nat) {n : Nat} {f : Nat → Int32} {i : Int} (hdg : decode cc pc = .ok (.baload, 1)) (ha : ws[q0]? = some (a, aZ g n f)) (hi : 0 ≤ i ∧ i < n) (hn : n < 2147483648) (hpn : pc + 1 = pn) (k : V p l e R s m args below meth c nL g A Q (ws) (cells) (slots) (lv) (pn) (.int (f i.toNat) :: st)) : V p l e R s m args below meth c nL g A Q (ws) (cells) (slots) (lv) (pc) (.int (iI i) :: .ref a :: st) := by
  subst hpn
  intro H locs ls hP hD hS hl
  exact va_zald fx.hx fx.hb fx.hK hP q0 2 ha rfl (iI_in hi hn) hdg (by rw [iI_clamp (by omega)]; exact (k H locs ls hP hD hS hl))
theorem v_lald (fx : Fx p s m args meth c cc nL own g A) {a : Nat} (q0 : Nat) {n : Nat} {f : Nat → Int64} {i : Int} (hdg : decode cc pc = .ok (.laload, 1)) (ha : ws[q0]? = some (a, aJ g n f)) (hi : 0 ≤ i ∧ i < n) (hn : n < 2147483648) (hpn : pc + 1 = pn) (k : V p l e R s m args below meth c nL g A Q (ws) (cells) (slots) (lv) (pn) (.long (f i.toNat) :: st)) : V p l e R s m args below meth c nL g A Q (ws) (cells) (slots) (lv) (pc) (.int (iI i) :: .ref a :: st) := by
  subst hpn
  intro H locs ls hP hD hS hl
  exact va_lald fx.hx fx.hb fx.hK hP q0 3 ha rfl (iI_in hi hn) hdg (by rw [iI_clamp (by omega)]; exact (k H locs ls hP hD hS hl))
theorem v_iast (fx : Fx p s m args meth c cc nL own g A) {a : Nat} (q0 : Nat) {n : Nat} {f : Nat → Int32} {i : Int} {x : Int32} (f2 : Nat → Int32) (wn : va_W) (hdg : decode cc pc = .ok (.iastore, 1)) (ha : ws[q0]? = some (a, aI g n f)) (hi : 0 ≤ i ∧ i < n) (hn : n < 2147483648) (hf2 : upd f i.toNat x = f2) (hw : ws.set q0 (a, aI g n f2) = wn) (hpn : pc + 1 = pn) (k : V p l e R s m args below meth c nL g A Q (wn) (cells) (slots) (lv) (pn) (st)) : V p l e R s m args below meth c nL g A Q (ws) (cells) (slots) (lv) (pc) (.int x :: .int (iI i) :: .ref a :: st) := by
  subst hpn; subst hw; subst hf2
  intro H locs ls hP hD hS hl
  exact va_iast fx.hx fx.hb fx.hK hP hD hS q0 0 ha rfl (iI_in hi hn) hdg (fun H1 locs1 hP1 hD1 hS1 => k H1 locs1 ls (by rw [iI_clamp (by omega)] at hP1; exact hP1) (by rw [iI_clamp (by omega)] at hD1; exact hD1) hS1 hl)
theorem v_bast (fx : Fx p s m args meth c cc nL own g A) {a : Nat} (q0 : Nat) {n : Nat} {f : Nat → Int32} {i : Int} {x : Int32} (f2 : Nat → Int32) (wn : va_W) (hdg : decode cc pc = .ok (.bastore, 1)) (ha : ws[q0]? = some (a, aB g n f)) (hi : 0 ≤ i ∧ i < n) (hn : n < 2147483648) (hf2 : upd f i.toNat (vp_nar .byte x) = f2) (hw : ws.set q0 (a, aB g n f2) = wn) (hpn : pc + 1 = pn) (k : V p l e R s m args below meth c nL g A Q (wn) (cells) (slots) (lv) (pn) (st)) : V p l e R s m args below meth c nL g A Q (ws) (cells) (slots) (lv) (pc) (.int x :: .int (iI i) :: .ref a :: st) := by
  subst hpn; subst hw; subst hf2
  intro H locs ls hP hD hS hl
  exact va_bast fx.hx fx.hb fx.hK hP hD hS q0 1 ha rfl (iI_in hi hn) hdg (fun H1 locs1 hP1 hD1 hS1 => k H1 locs1 ls (by rw [iI_clamp (by omega)] at hP1; exact hP1) (by rw [iI_clamp (by omega)] at hD1; exact hD1) hS1 hl)
theorem v_zast (fx : Fx p s m args meth c cc nL own g A) {a : Nat} (q0 : Nat) {n : Nat} {f : Nat → Int32} {i : Int} {x : Int32} (f2 : Nat → Int32) (wn : va_W) (hdg : decode cc pc = .ok (.bastore, 1)) (ha : ws[q0]? = some (a, aZ g n f)) (hi : 0 ≤ i ∧ i < n) (hn : n < 2147483648) (hf2 : upd f i.toNat (vp_nar .boolean x) = f2) (hw : ws.set q0 (a, aZ g n f2) = wn) (hpn : pc + 1 = pn) (k : V p l e R s m args below meth c nL g A Q (wn) (cells) (slots) (lv) (pn) (st)) : V p l e R s m args below meth c nL g A Q (ws) (cells) (slots) (lv) (pc) (.int x :: .int (iI i) :: .ref a :: st) := by
  subst hpn; subst hw; subst hf2
  intro H locs ls hP hD hS hl
  exact va_zast fx.hx fx.hb fx.hK hP hD hS q0 2 ha rfl (iI_in hi hn) hdg (fun H1 locs1 hP1 hD1 hS1 => k H1 locs1 ls (by rw [iI_clamp (by omega)] at hP1; exact hP1) (by rw [iI_clamp (by omega)] at hD1; exact hD1) hS1 hl)
theorem v_last (fx : Fx p s m args meth c cc nL own g A) {a : Nat} (q0 : Nat) {n : Nat} {f : Nat → Int64} {i : Int} {x : Int64} (f2 : Nat → Int64) (wn : va_W) (hdg : decode cc pc = .ok (.lastore, 1)) (ha : ws[q0]? = some (a, aJ g n f)) (hi : 0 ≤ i ∧ i < n) (hn : n < 2147483648) (hf2 : vp_updL f i.toNat x = f2) (hw : ws.set q0 (a, aJ g n f2) = wn) (hpn : pc + 1 = pn) (k : V p l e R s m args below meth c nL g A Q (wn) (cells) (slots) (lv) (pn) (st)) : V p l e R s m args below meth c nL g A Q (ws) (cells) (slots) (lv) (pc) (.long x :: .int (iI i) :: .ref a :: st) := by
  subst hpn; subst hw; subst hf2
  intro H locs ls hP hD hS hl
  exact va_last fx.hx fx.hb fx.hK hP hD hS q0 3 ha rfl (iI_in hi hn) hdg (fun H1 locs1 hP1 hD1 hS1 => k H1 locs1 ls (by rw [iI_clamp (by omega)] at hP1; exact hP1) (by rw [iI_clamp (by omega)] at hD1; exact hD1) hS1 hl)
theorem v_alen (fx : Fx p s m args meth c cc nL own g A) {a : Nat} (q0 t0 : Nat) (nn : Int) {cA : ClassId} {x : vp_A} {ty : FieldType} (hdg : decode cc pc = .ok (.arraylength, 1)) (ha : ws[q0]? = some (a, .inl (cA, x))) (ht : (tyL g)[t0]? = some (cA, ty)) (hx : ((x.1 : Nat) : Int) = nn) (hpn : pc + 1 = pn) (k : V p l e R s m args below meth c nL g A Q (ws) (cells) (slots) (lv) (pn) (.int (iI nn) :: st)) : V p l e R s m args below meth c nL g A Q (ws) (cells) (slots) (lv) (pc) (.ref a :: st) := by
  subst hpn; subst hx
  intro H locs ls hP hD hS hl
  exact va_alen fx.hx fx.hb fx.hK hP q0 t0 ha ht (iI_nI x.1) hdg (k H locs ls hP hD hS hl)
theorem v_newa (fx : Fx p s m args meth c cc nL own g A) {atype : ArrayType} (t0 : Nat) {cA : ClassId} (ty : FieldType) {i : Int} (N' : Nat) (a0 : vp_A) (cn sn : Nat) (harr : Cond.arrayClass ty ∈ wT) (hdg : decode cc pc = .ok (.newarray atype, 2)) (hty : newarray.typeOf atype = ty) (hnr : refKind ty = false) (ht : (tyL g)[t0]? = some (cA, ty)) (hi : 0 ≤ i ∧ i < 60000000) (hN : i.toNat = N') (ha : ∀ cA : ClassId, vp_cell cA a0 = arrV cA N' (fun _ => defaultValue ty)) (hcb : componentBytes ty ≤ 8) (hcells : cn ≤ R.cells) (hslots : sn ≤ R.slots) (hcn : cells + 1 = cn) (hsn : slots + N' = sn) (hpn : pc + 2 = pn) (k : ∀ q : Nat, V p l e R s m args below meth c nL g A Q (ws ++ [(q, .inl (cA, a0))]) (cn) (sn) (lv) (pn) (.ref q :: st)) : V p l e R s m args below meth c nL g A Q (ws) (cells) (slots) (lv) (pc) (.int (iI i) :: st) := by
  subst hpn; subst hcn; subst hsn; subst hN
  intro H locs ls hP hD hS hl
  exact va_newa fx.hx fx.hb (by rw [hty]; exact fx.hts _ harr) hty fx.hK hP hD hS fx.hA ha (by rw [show (0 : Int32) = iI 0 from iI_0.symm, iI_lt (by omega) (by decide)]; omega) (iI_clamp (by omega)) (by have := Nat.mul_le_mul_left i.toNat hcb; omega) hcells hslots hdg (fun q c2 H1 hK1 hP1 hD1 hS1 => by
    have e2 : c2 = cA := by
      have h1 := (hK1.2 4 (c2, ty) rfl).2
      have h2 := (fx.hK.2 t0 _ ht).2
      cases ty <;> first | (simp [refKind] at hnr; done) | exact Option.some.inj (h1.symm.trans h2)
    subst e2
    exact k q H1 locs ls hP1 hD1 hS1 hl)
theorem arr0_int (cA : ClassId) (n : Nat) : vp_cell cA (n, .inl (fun _ => 0)) = arrV cA n (fun _ => defaultValue .int) := rfl
theorem arr0_byte (cA : ClassId) (n : Nat) : vp_cell cA (n, .inl (fun _ => 0)) = arrV cA n (fun _ => defaultValue .byte) := rfl
theorem arr0_boolean (cA : ClassId) (n : Nat) : vp_cell cA (n, .inl (fun _ => 0)) = arrV cA n (fun _ => defaultValue .boolean) := rfl
theorem arr0_long (cA : ClassId) (n : Nat) : vp_cell cA (n, .inr (.inl (fun _ => 0))) = arrV cA n (fun _ => defaultValue .long) := rfl
theorem v_gets (fx : Fx p s m args meth c cc nL own g A) {index : Nat} (t0 : Nat) (ht : t0 < 4) (hlink : Cond.fieldLink own index "FaxRows" (gN t0) "[I" ∈ wT) (hdg : decode cc pc = .ok (.getstatic index, 3)) (hpn : pc + 3 = pn) (k : V p l e R s m args below meth c nL g A Q (ws) (cells) (slots) (lv) (pn) (.ref (g.2.2.1 t0) :: st)) : V p l e R s m args below meth c nL g A Q (ws) (cells) (slots) (lv) (pc) (st) := by
  subst hpn
  intro H locs ls hP hD hS hl
  exact va_gets fx.hx fx.hb (fx.hsg.1 t0 ht).1 hS fx.hown (fx.hts _ hlink) (fun _ h => h) hdg (k H locs ls hP hD hS hl)
theorem v_getsN (fx : Fx p s m args meth c cc nL own g A) {index : Nat} (t0 : Nat) (ht : t0 < 4) (hlink : Cond.fieldLinkNest own index "FaxRows" (gN t0) "[I" "FaxRows" ∈ wN) (hdg : decode cc pc = .ok (.getstatic index, 3)) (hpn : pc + 3 = pn) (k : V p l e R s m args below meth c nL g A Q (ws) (cells) (slots) (lv) (pn) (.ref (g.2.2.1 t0) :: st)) : V p l e R s m args below meth c nL g A Q (ws) (cells) (slots) (lv) (pc) (st) := by
  subst hpn
  intro H locs ls hP hD hS hl
  exact va_getsN fx.hx fx.hb (fx.hsg.1 t0 ht).1 hS fx.hown (va_Nw.use rfl (fx.hsg.2.1 _ hlink)) (fun _ h => h) hdg (k H locs ls hP hD hS hl)
theorem v_tlen (fx : Fx p s m args meth c cc nL own g A) (t0 : Nat) (ht : t0 < 4) {n : Int} (hn : ((gT t0).length : Int) = n) (hdg : decode cc pc = .ok (.arraylength, 1)) (hpn : pc + 1 = pn) (k : V p l e R s m args below meth c nL g A Q (ws) (cells) (slots) (lv) (pn) (.int (iI n) :: st)) : V p l e R s m args below meth c nL g A Q (ws) (cells) (slots) (lv) (pc) (.ref (g.2.2.1 t0) :: st) := by
  subst hpn; subst hn
  intro H locs ls hP hD hS hl
  exact va_tlen fx.hx fx.hb (fx.hsg.1 t0 ht).2 hS (iI_nI _) hdg (k H locs ls hP hD hS hl)
theorem v_tald (fx : Fx p s m args meth c cc nL own g A) (t0 : Nat) (ht : t0 < 4) {i : Int} (hi : 0 ≤ i ∧ i < (gT t0).length) (hdg : decode cc pc = .ok (.iaload, 1)) (hpn : pc + 1 = pn) (k : V p l e R s m args below meth c nL g A Q (ws) (cells) (slots) (lv) (pn) (.int ((gT t0).getD i.toNat 0) :: st)) : V p l e R s m args below meth c nL g A Q (ws) (cells) (slots) (lv) (pc) (.int (iI i) :: .ref (g.2.2.1 t0) :: st) := by
  subst hpn
  intro H locs ls hP hD hS hl
  have hN : (gT t0).length < 2147483648 := by
    rcases (show t0 = 0 ∨ t0 = 1 ∨ t0 = 2 ∨ t0 = 3 by omega) with rfl | rfl | rfl | rfl <;> decide
  exact va_ti fx.hx fx.hb (fx.hsg.1 t0 ht).2 hS (iI_in hi hN) (by rw [iI_clamp (by omega)]) hdg (k H locs ls hP hD hS hl)
theorem v_slen (fx : Fx p s m args meth c cc nL own g A) (n : Int) (hn : (g.2.2.2.2.length : Int) = n) (hdg : decode cc pc = .ok (.arraylength, 1)) (hpn : pc + 1 = pn) (k : V p l e R s m args below meth c nL g A Q (ws) (cells) (slots) (lv) (pn) (.int (iI n) :: st)) : V p l e R s m args below meth c nL g A Q (ws) (cells) (slots) (lv) (pc) (.ref g.2.2.2.1 :: st) := by
  subst hpn; subst hn
  intro H locs ls hP hD hS hl
  exact va_tlen fx.hx fx.hb fx.hsg.2.2.1 hS (iI_nI _) hdg (k H locs ls hP hD hS hl)
theorem v_sald (fx : Fx p s m args meth c cc nL own g A) {i : Int} (hi : 0 ≤ i ∧ i < g.2.2.2.2.length) (hdg : decode cc pc = .ok (.iaload, 1)) (hpn : pc + 1 = pn) (k : V p l e R s m args below meth c nL g A Q (ws) (cells) (slots) (lv) (pn) (.int (g.2.2.2.2.getD i.toNat 0) :: st)) : V p l e R s m args below meth c nL g A Q (ws) (cells) (slots) (lv) (pc) (.int (iI i) :: .ref g.2.2.2.1 :: st) := by
  subst hpn
  intro H locs ls hP hD hS hl
  have hN : g.2.2.2.2.length < 2147483648 := Nat.lt_of_le_of_lt fx.hsg.2.2.2.1 (by decide)
  exact va_ti fx.hx fx.hb fx.hsg.2.2.1 hS (iI_in hi hN) (by rw [iI_clamp (by omega)]) hdg (k H locs ls hP hD hS hl)
theorem v_tabIn (fx : Fx p s m args meth c cc nL own g A) {dflt lo hi : Int} {offs : Array Int} {len : Nat} {a off : Int} (tgt : Nat) (hdg : decode cc pc = .ok (.tableswitch dflt lo hi offs, len)) (ha : -2147483648 ≤ a ∧ a < 2147483648) (h1 : ¬ a < lo) (h2 : ¬ hi < a) (ho : offs[(a - lo).toNat]? = some off) (ht : (pc : Int) + off = (tgt : Int)) (k : V p l e R s m args below meth c nL g A Q (ws) (cells) (slots) (lv) (tgt) (st)) : V p l e R s m args below meth c nL g A Q (ws) (cells) (slots) (lv) (pc) (.int (iI a) :: st) := by
  intro H locs ls hP hD hS hl
  exact lv_tableIn fx.hx fx.hb hdg (by rw [iI_toInt ha]; exact h1) (by rw [iI_toInt ha]; exact h2) (by rw [iI_toInt ha]; exact ho) ht (k H locs ls hP hD hS hl)
theorem v_tabOut (fx : Fx p s m args meth c cc nL own g A) {dflt lo hi : Int} {offs : Array Int} {len : Nat} {a : Int} (tgt : Nat) (hdg : decode cc pc = .ok (.tableswitch dflt lo hi offs, len)) (ha : -2147483648 ≤ a ∧ a < 2147483648) (h1 : a < lo ∨ hi < a) (ht : (pc : Int) + dflt = (tgt : Int)) (k : V p l e R s m args below meth c nL g A Q (ws) (cells) (slots) (lv) (tgt) (st)) : V p l e R s m args below meth c nL g A Q (ws) (cells) (slots) (lv) (pc) (.int (iI a) :: st) := by
  intro H locs ls hP hD hS hl
  exact lv_tableOut fx.hx fx.hb hdg (by rw [iI_toInt ha]; exact h1) ht (k H locs ls hP hD hS hl)
end VLayer
