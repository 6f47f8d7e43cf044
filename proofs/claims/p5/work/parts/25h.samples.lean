/-! SAMPLES BY THEIR BITS -/
def sBit (fw : Nat → Int32) (x : Int) : Bool := (fw (x / 32).toNat).toBitVec.getLsbD (x % 32).toNat
def prevB (fw : Nat → Int32) (x : Int) : Bool := if x = 0 then false else sBit fw (x - 1)
theorem shl_bv : ∀ k : Fin 32, (iI 1 <<< (iI (k.val : Int) &&& 31)).toBitVec = BitVec.twoPow 32 k.val := by decide +kernel
theorem shl_x {x : Int} {t : Int32} (e : iI 1 <<< (iI (x % 32) &&& 31) = t) : t.toBitVec = BitVec.twoPow 32 (x % 32).toNat := by
  have := shl_bv ⟨(x % 32).toNat, by omega⟩
  rw [← e]
  rw [show (((x % 32).toNat : Nat) : Int) = x % 32 by omega] at this
  exact this
theorem sBit_other {f : Nat → Int32} {x y : Int} {v : Int32} (hx : 0 ≤ x) (hy : 0 ≤ y) (h : y / 32 ≠ x / 32) : sBit (upd f (x / 32).toNat v) y = sBit f y := by
  unfold sBit; rw [pk_un (by omega)]
theorem sBit_same {f : Nat → Int32} {x y : Int} {v : Int32} (h : y / 32 = x / 32) : sBit (upd f (x / 32).toNat v) y = v.toBitVec.getLsbD (y % 32).toNat := by
  unfold sBit; rw [h, pk_us]
theorem set_1 {f f2 : Nat → Int32} {x : Int} {t t2 : Int32} (e1 : iI 1 <<< (iI (x % 32) &&& 31) = t) (e2 : f (x / 32).toNat ||| t = t2) (e : upd f (x / 32).toNat t2 = f2) (hx : 0 ≤ x) : ∀ y, 0 ≤ y → sBit f2 y = if y = x then true else sBit f y := by
  intro y hy
  rw [← e]
  by_cases q : y / 32 = x / 32
  · rw [sBit_same q, ← e2, Int32.toBitVec_or, shl_x e1, BitVec.getLsbD_or, BitVec.getLsbD_twoPow]
    by_cases q2 : y = x
    · subst q2; rw [if_pos rfl]
      have : (y % 32).toNat < 32 := by omega
      simp [this]
    · rw [if_neg q2]
      have : ¬ (x % 32).toNat = (y % 32).toNat := by omega
      simp only [this, decide_false, Bool.and_false, Bool.or_false]
      unfold sBit; rw [q]
  · rw [sBit_other hx hy q, if_neg (by intro h; subst h; exact q rfl)]
theorem set_0 {f f2 : Nat → Int32} {x : Int} {t t2 t3 : Int32} (e1 : iI 1 <<< (iI (x % 32) &&& 31) = t) (e0 : t ^^^ iI (-1) = t2) (e2 : f (x / 32).toNat &&& t2 = t3) (e : upd f (x / 32).toNat t3 = f2) (hx : 0 ≤ x) : ∀ y, 0 ≤ y → sBit f2 y = if y = x then false else sBit f y := by
  intro y hy
  rw [← e]
  have hm : (iI (-1)).toBitVec = BitVec.allOnes 32 := by decide +kernel
  by_cases q : y / 32 = x / 32
  · rw [sBit_same q, ← e2, ← e0, Int32.toBitVec_and, Int32.toBitVec_xor, hm, shl_x e1, BitVec.getLsbD_and, BitVec.getLsbD_xor, BitVec.getLsbD_twoPow, BitVec.getLsbD_allOnes]
    have h32 : (y % 32).toNat < 32 := by omega
    have hx32 : (x % 32).toNat < 32 := by omega
    by_cases q2 : y = x
    · subst q2; rw [if_pos rfl]
      simp [h32]
    · rw [if_neg q2]
      have : ¬ (x % 32).toNat = (y % 32).toNat := by omega
      simp only [this, decide_false, Bool.and_false, h32, decide_true, Bool.false_xor, Bool.and_true]
      unfold sBit; rw [q]
  · rw [sBit_other hx hy q, if_neg (by intro h; subst h; exact q rfl)]
theorem smod_k : ∀ k : Fin 32, ((iI (k.val : Int) &&& 31).toBitVec.smod 32).toNat = k.val := by decide +kernel
theorem chz {ch t t2 : Int32} {i z : Int} (e1 : ch >>> (iI i &&& 31) = t) (e2 : t &&& iI 1 = t2) (e3 : t2 = iI z) (hz : -2147483648 ≤ z ∧ z < 2147483648) (hi : 0 ≤ i ∧ i < 32) : (z = 1 ∧ ch.toBitVec.getLsbD i.toNat = true) ∨ (z = 0 ∧ ch.toBitVec.getLsbD i.toNat = false) := by
  have hk := smod_k ⟨i.toNat, by omega⟩
  rw [show ((i.toNat : Nat) : Int) = i by omega] at hk
  have hk : ((iI i &&& 31).toBitVec.smod 32).toNat = i.toNat := hk
  have hb : t.toBitVec.getLsbD 0 = ch.toBitVec.getLsbD i.toNat := by
    rw [← e1, Int32.toBitVec_shiftRight]
    show (ch.toBitVec.sshiftRight ((iI i &&& 31).toBitVec.smod 32).toNat).getLsbD 0 = _
    rw [hk, BitVec.getLsbD_sshiftRight]
    have h32 : i.toNat < 32 := by omega
    simp [h32]
  obtain ⟨j, hj, e⟩ := pk_andE t (m := iI 1) 1 (by decide +kernel)
  rw [e2, e3, iI_nI, iI_inj hz (by omega)] at e
  have hz01 : z = 0 ∨ z = 1 := by omega
  have hbit : t2.toBitVec.getLsbD 0 = t.toBitVec.getLsbD 0 := by
    rw [← e2, Int32.toBitVec_and, BitVec.getLsbD_and]
    rw [show (iI 1).toBitVec.getLsbD 0 = true by decide +kernel, Bool.and_true]
  rw [← hb, ← hbit, e3]
  rcases hz01 with rfl | rfl
  · right; exact ⟨rfl, by decide +kernel⟩
  · left; exact ⟨rfl, by decide +kernel⟩
def BfI (fw : Nat → Int32) (bf : Int32) (i : Int) : Prop := ∀ j : Nat, bf.toBitVec.getLsbD j = (decide (j = 0) && prevB fw (32 * i))
theorem BfI_0 {fw : Nat → Int32} : BfI fw (iI 0) 0 := fun j => by
  rw [show (iI 0).toBitVec = 0#32 by decide +kernel, BitVec.getLsbD_zero]
  unfold prevB; simp
theorem sBit_at {fw : Nat → Int32} {i : Int} {j : Nat} (hi : 0 ≤ i) (hj : j < 32) : sBit fw (32 * i + j) = (fw i.toNat).toBitVec.getLsbD j := by
  unfold sBit; rw [show ((32 * i + (j : Int)) / 32).toNat = i.toNat by omega, show ((32 * i + (j : Int)) % 32).toNat = j by omega]
theorem BfI_n {fw : Nat → Int32} {i : Int} {t : Int32} (e : ((fw i.toNat).toUInt32 >>> ((iI 31).toUInt32 &&& Int32.toUInt32 31)).toInt32 = t) (hi : 0 ≤ i) : BfI fw t (i + 1) := by
  intro j
  have hp : prevB fw (32 * (i + 1)) = (fw i.toNat).toBitVec.getLsbD 31 := by
    unfold prevB; rw [if_neg (by omega), show 32 * (i + 1) - 1 = 32 * i + ((31 : Nat) : Int) by omega, sBit_at hi (by omega)]
  rw [hp, ← e]
  have h1 : (((fw i.toNat).toUInt32 >>> ((iI 31).toUInt32 &&& Int32.toUInt32 31)).toInt32).toBitVec = (fw i.toNat).toBitVec >>> 31 := by
    show ((fw i.toNat).toUInt32 >>> ((iI 31).toUInt32 &&& Int32.toUInt32 31)).toBitVec = _
    rw [show (iI 31).toUInt32 &&& Int32.toUInt32 31 = 31 by decide +kernel, UInt32.toBitVec_shiftRight]
    rfl
  rw [h1, BitVec.getLsbD_ushiftRight]
  by_cases q : j = 0
  · subst q; simp
  · rw [BitVec.getLsbD_of_ge _ _ (by omega)]; simp [q]
theorem chb {fw : Nat → Int32} {i : Int} {bf t1 t2 t3 : Int32} (e1 : fw i.toNat <<< (iI 1 &&& 31) = t1) (e2 : t1 ||| bf = t2) (e3 : fw i.toNat ^^^ t2 = t3) (hB : BfI fw bf i) (hi : 0 ≤ i) : ∀ j : Nat, j < 32 → t3.toBitVec.getLsbD j = (sBit fw (32 * i + j) ^^ prevB fw (32 * i + j)) := by
  intro j hj
  have h1 : t1.toBitVec = (fw i.toNat).toBitVec <<< 1 := by
    rw [← e1, Int32.toBitVec_shiftLeft]
    rw [show (iI 1 &&& 31).toBitVec.smod 32 = 1#32 by decide +kernel]
    rfl
  rw [← e3, ← e2, Int32.toBitVec_xor, Int32.toBitVec_or, BitVec.getLsbD_xor, BitVec.getLsbD_or, h1, hB j, BitVec.getLsbD_shiftLeft, sBit_at hi hj]
  congr 1
  by_cases q : j = 0
  · subst q
    simp
  · have hp : prevB fw (32 * i + (j : Int)) = (fw i.toNat).toBitVec.getLsbD (j - 1) := by
      unfold prevB
      rw [if_neg (by omega), show (32 * i + (j : Int)) - 1 = 32 * i + ((j - 1 : Nat) : Int) by omega, sBit_at hi (by omega)]
    rw [hp]
    simp [q, hj, show ¬ j < 1 by omega]
/-- the changes before p are the items a .. e -/
def lowv (f : Nat → Int32) (a k : Int) : Int := if k = 0 then 0 else vl f (a + k - 1)
def RowQ (fw f : Nat → Int32) (a e p : Int) : Prop := ∀ k, 0 ≤ k → a + k ≤ e → ∀ x, lowv f a k ≤ x → 0 ≤ x → x < (if a + k < e then vl f (a + k) else p) → sBit fw x = decide (k % 2 = 1)
theorem RowQ_0 {fw f : Nat → Int32} {a : Int} : RowQ fw f a a 0 := by
  intro k h0 h1 x h2 h3 h4
  rw [if_neg (by omega)] at h4; omega
theorem RowQ_last {fw f : Nat → Int32} {a e p : Int} (h : RowQ fw f a e p) (hi : inc f a e p) (hae : a ≤ e) (hp : 0 ≤ p) : prevB fw p = decide ((e - a) % 2 = 1) := by
  unfold prevB
  by_cases q : p = 0
  · rw [if_pos q]
    have := inc_len hi hp
    rw [show e - a = 0 by omega]; rfl
  · rw [if_neg q]
    refine h (e - a) (by omega) (by omega) (p - 1) ?_ (by omega) (by rw [if_neg (by omega)]; omega)
    unfold lowv
    by_cases q2 : e - a = 0
    · rw [if_pos q2]; omega
    · rw [if_neg q2]
      have := (hi (a + (e - a) - 1) (by omega) (by omega)).1.2
      omega
theorem RowQ_n {fw f : Nat → Int32} {a e p : Int} (h : RowQ fw f a e p) (hi : inc f a e p) (hae : a ≤ e) (hp : 0 ≤ p) (hb : sBit fw p = prevB fw p) : RowQ fw f a e (p + 1) := by
  intro k h0 h1 x h2 h3 h4
  by_cases q : a + k < e
  · exact h k h0 h1 x h2 h3 (by rw [if_pos q] at h4 ⊢; exact h4)
  · rw [if_neg q] at h4
    by_cases q2 : x < p
    · exact h k h0 h1 x h2 h3 (by rw [if_neg q]; exact q2)
    · rw [show x = p by omega, hb, RowQ_last h hi hae hp, show e - a = k by omega]
theorem RowQ_c {fw f f2 : Nat → Int32} {a e p : Int} (h : RowQ fw f a e p) (hi : inc f a e p) (hae : 0 ≤ a ∧ a ≤ e) (hp : 0 ≤ p ∧ p < 2147483648) (hb : sBit fw p = !prevB fw p) (hk : ∀ j : Nat, (j : Int) < e → f2 j = f j) (hx : f2 e.toNat = iI p) : RowQ fw f2 a (e + 1) (p + 1) := by
  have hv : ∀ i, 0 ≤ i → i < e → vl f2 i = vl f i := fun i g1 g2 => by unfold vl; rw [hk i.toNat (by omega)]
  have he : vl f2 e = p := by unfold vl; rw [hx, iI_toInt (by omega)]
  have hlo : ∀ k, 0 ≤ k → a + k ≤ e → lowv f2 a k = lowv f a k := fun k g1 g2 => by
    unfold lowv
    by_cases q : k = 0
    · rw [if_pos q, if_pos q]
    · rw [if_neg q, if_neg q, hv _ (by omega) (by omega)]
  intro k h0 h1 x h2 h3 h4
  by_cases q : a + k ≤ e
  · rw [hlo k h0 q] at h2
    rw [if_pos (by omega)] at h4
    refine h k h0 q x h2 h3 ?_
    by_cases q2 : a + k < e
    · rw [if_pos q2]; rw [hv _ (by omega) q2] at h4; exact h4
    · rw [if_neg q2]; rw [show a + k = e by omega, he] at h4; exact h4
  · rw [if_neg (by omega)] at h4
    have hk1 : k = e - a + 1 := by omega
    unfold lowv at h2
    rw [if_neg (by omega), show a + k - 1 = e by omega, he] at h2
    rw [show x = p by omega, hb, RowQ_last h hi hae.2 hp.1, hk1]
    by_cases q3 : (e - a) % 2 = 1
    · rw [decide_eq_true q3, decide_eq_false (by omega)]; rfl
    · rw [decide_eq_false q3, decide_eq_true (by omega)]; rfl
theorem RowQ_skip {fw f : Nat → Int32} {a e p : Int} (h : RowQ fw f a e p) (hi : inc f a e p) (hae : a ≤ e) (hp : 0 ≤ p) : ∀ d : Nat, (∀ j : Nat, j < d → sBit fw (p + j) = prevB fw (p + j)) → RowQ fw f a e (p + d)
  | 0, _ => by simpa using h
  | d + 1, hd => by
    have h1 := RowQ_skip h hi hae hp d (fun j hj => hd j (by omega))
    have h2 := RowQ_n h1 (inc_mono hi (by omega)) hae (by omega) (hd d (by omega))
    rw [show p + ((d + 1 : Nat) : Int) = p + d + 1 by omega]
    exact h2
/-- the words of the row that is made, and the reference's -/
def SmpW (w : Int) (fw fm : Nat → Int32) : Prop := ∀ x, 0 ≤ x → x < w → fm x.toNat = iI (if sBit fw x then 1 else 0)
theorem fillw_1 {f1 f2 : Nat → Int32} {i : Int} (e : upd f1 i.toNat (iI 0) = f2) (h : ∀ j : Nat, (j : Int) < i → f1 j = 0) (hi : 0 ≤ i) : ∀ j : Nat, (j : Int) < i + 1 → f2 j = 0 := by
  intro j h2
  rw [← e]
  by_cases q : j = i.toNat
  · subst q; rw [pk_us]; decide
  · rw [pk_un q]; exact h j (by omega)
theorem ch_y {w : Int} {ch : Int32} {fw : Nat → Int32} {st i : Int} (h : ∀ j : Nat, j < 32 → ch.toBitVec.getLsbD j = (sBit fw (st + j) ^^ prevB fw (st + j))) (hi : 0 ≤ i ∧ i < 32) (hb : ch.toBitVec.getLsbD i.toNat = true) : sBit fw (st + i) = !prevB fw (st + i) := by
  have := h i.toNat (by omega)
  rw [show ((i.toNat : Nat) : Int) = i by omega, hb] at this
  revert this
  cases sBit fw (st + i) <;> cases prevB fw (st + i) <;> decide
theorem ch_n {w : Int} {ch : Int32} {fw : Nat → Int32} {st i : Int} (h : ∀ j : Nat, j < 32 → ch.toBitVec.getLsbD j = (sBit fw (st + j) ^^ prevB fw (st + j))) (hi : 0 ≤ i ∧ i < 32) (hb : ch.toBitVec.getLsbD i.toNat = false) : sBit fw (st + i) = prevB fw (st + i) := by
  have := h i.toNat (by omega)
  rw [show ((i.toNat : Nat) : Int) = i by omega, hb] at this
  revert this
  cases sBit fw (st + i) <;> cases prevB fw (st + i) <;> decide
theorem ch_0 {ch : Int32} {z : Int} {fw f : Nat → Int32} {a e st p2 : Int} (h : ∀ j : Nat, j < 32 → ch.toBitVec.getLsbD j = (sBit fw (st + j) ^^ prevB fw (st + j))) (e0 : ch = iI z) (hz : z = 0) (hQ : RowQ fw f a e st) (hi : inc f a e st) (hae : a ≤ e) (hs : 0 ≤ st) (hp : st ≤ p2 ∧ p2 ≤ st + 32) : RowQ fw f a e p2 := by
  have := RowQ_skip hQ hi hae hs (p2 - st).toNat (fun j hj => by
    have h1 := h j (by omega)
    rw [e0, hz, show (iI 0).toBitVec = 0#32 by decide +kernel, BitVec.getLsbD_zero] at h1
    revert h1
    cases sBit fw (st + j) <;> cases prevB fw (st + j) <;> decide)
  rwa [show st + ((p2 - st).toNat : Int) = p2 by omega] at this
theorem sBit_0 {f : Nat → Int32} {n : Nat} {x : Int} (h : ∀ j : Nat, j < n → f j = 0) (hx : 0 ≤ x ∧ x < 32 * (n : Int)) : sBit f x = false := by
  unfold sBit; rw [h _ (by omega)]; exact BitVec.getLsbD_zero
abbrev po_c_J7_fillw_z (g : GG) (h1 : Nat) (n : Nat) (f : Nat → Int32) : Option Value → va_W → Prop := fun v8 w8 => ∃ f2 : Nat → Int32, v8 = none ∧ w8 = [(h1, aI g n f2)] ∧ (∀ j : Nat, j < n → f2 j = 0)
set_option maxHeartbeats 4000000 in
set_option maxRecDepth 100000 in
theorem c_J7_fillw_z (l : Launch) (g : GG) (h1 : Nat) (n : Nat) (f : Nat → Int32) (hp0 : n < 100000000) : Ct l g yJ7_fill_53178 (wM yJ7_fill_53178 cJ7_fill_53178 4 none) (rmD 0 0 0) [.ref h1, .int (iI 0)] [(h1, aI g n f)] (po_c_J7_fillw_z g h1 n f) := by
  refine Ct_of (by decide +kernel) (Nat.le_of_ble_eq_true rfl) ?_
  intro p9 e9 s9 m9 ag9 bl9 mt9 c9 A9 fx hr hnm
  refine v_iconst fx dJ7_fill_53178_0 rfl ?_
  refine v_istore_n fx [(2, .int (iI 0)), (0, .ref h1), (1, .int (iI 0))] dJ7_fill_53178_1 (by decide) rfl rfl ?_
  refine v_aload_n fx 1 dJ7_fill_53178_2 rfl rfl ?_
  refine v_alen fx 0 0 (n : Int) dJ7_fill_53178_3 rfl rfl rfl rfl ?_
  refine v_istore_n fx [(3, .int (iI (n : Int))), (2, .int (iI 0)), (0, .ref h1), (1, .int (iI 0))] dJ7_fill_53178_4 (by decide) rfl rfl ?_
  have L5 : ∀ (N : Nat) (i : Int) (f1 : Nat → Int32), (0 ≤ i ∧ i ≤ (n : Int)) → (∀ j : Nat, (j : Int) < i → f1 j = 0) → (((n : Int) - i).toNat) < N → V p9 l e9 (rmD 0 0 0) s9 m9 ag9 bl9 mt9 c9 4 g A9 (MQ bl9 (cQ g (po_c_J7_fillw_z g h1 n f) A9) ag9 s9 0 0 A9) [(h1, aI g n f1)] 0 0 [(0, .ref h1), (1, .int (iI 0)), (2, .int (iI i)), (3, .int (iI (n : Int)))] 5 [] := by
    intro N
    induction N with
    | zero => intro i f1 hi5_0 hi5_1 hN; exact absurd hN (Nat.not_lt_zero _)
    | succ N ihL5 =>
      intro i f1 hi5_0 hi5_1 hN5
      refine v_iload_n fx 2 dJ7_fill_53178_5 rfl rfl ?_
      refine v_iload_n fx 3 dJ7_fill_53178_6 rfl rfl ?_
      refine v_icmp_ge fx 20 dJ7_fill_53178_7 (by decide) rfl (by omega) (by omega) (fun h_1 => ?_) (fun h_1 => ?_)
      ·
        exact v_vret fx [(h1, aI g n f1)] [0] hr dJ7_fill_53178_20 rfl rfl (nl rfl) (nl rfl) ⟨f1, rfl, rfl, (by exact fun j h => hi5_1 j (by omega))⟩
      ·
        refine v_aload_n fx 0 dJ7_fill_53178_10 rfl rfl ?_
        refine v_iload_n fx 2 dJ7_fill_53178_11 rfl rfl ?_
        refine v_iload_n fx 1 dJ7_fill_53178_12 rfl rfl ?_
        obtain ⟨f_2, ef_2⟩ : ∃ f9 : Nat → Int32, upd f1 (i).toNat (iI 0) = f9 := ⟨_, rfl⟩
        refine v_iast fx 0 f_2 [(h1, aI g n f_2)] dJ7_fill_53178_13 rfl (by omega) (by omega) ef_2 rfl rfl ?_
        refine v_iinc fx 2 (i + 1) [(2, .int (iI (i + 1))), (0, .ref h1), (1, .int (iI 0)), (3, .int (iI (n : Int)))] dJ7_fill_53178_14 rfl (by omega) (by decide) rfl rfl ?_
        refine v_goto fx 5 dJ7_fill_53178_17 (by decide) ?_
        refine v_lv [1, 2, 0, 3] [(0, .ref h1), (1, .int (iI 0)), (2, .int (iI (i + 1))), (3, .int (iI (n : Int)))] rfl ?_
        exact ihL5 (i + 1) f_2 (by omega) (by exact fillw_1 (by assumption) hi5_1 (by omega)) (by omega)
  refine v_lv [2, 3, 1, 0] [(0, .ref h1), (1, .int (iI 0)), (2, .int (iI 0)), (3, .int (iI (n : Int)))] rfl ?_
  exact L5 _ 0 f (by omega) (by exact fun j h => by omega) (Nat.lt_succ_self _)
abbrev po_c_X4_set_e (g : GG) (h0 : Nat) (h1 : Nat) (n : Nat) (f : Nat → Int32) (sw : Int32) (x : Int) (on : Int) : Option Value → va_W → Prop := fun v8 w8 => ∃ f2 : Nat → Int32, v8 = none ∧ w8 = [(h0, ob 4 [.int sw, .ref h1]), (h1, aI g n f2)] ∧ (∀ y, 0 ≤ y → sBit f2 y = if y = x then decide (on = 1) else sBit f y)
set_option maxHeartbeats 4000000 in
set_option maxRecDepth 100000 in
theorem c_X4_set_e (l : Launch) (g : GG) (h0 : Nat) (h1 : Nat) (n : Nat) (f : Nat → Int32) (sw : Int32) (x : Int) (on : Int) (hp0 : 0 ≤ x ∧ x < 32 * (n : Int)) (hp1 : 0 ≤ on ∧ on ≤ 1) (hp2 : n < 1000000) : Ct l g yX4_set (wM yX4_set cX4_set 5 none) (rmD 0 0 0) [.ref h0, .int (iI x), .int (iI on)] [(h0, ob 4 [.int sw, .ref h1]), (h1, aI g n f)] (po_c_X4_set_e g h0 h1 n f sw x on) := by
  refine Ct_of (by decide +kernel) (Nat.le_of_ble_eq_true rfl) ?_
  intro p9 e9 s9 m9 ag9 bl9 mt9 c9 A9 fx hr hnm
  refine v_iload_n fx 1 dX4_set_0 rfl rfl ?_
  refine v_iconst fx dX4_set_1 rfl ?_
  refine v_ishr fx (iI (x / 32)) dX4_set_2 (iI_shr (k := 5) (by omega) _ (by decide)) rfl ?_
  refine v_istore_n fx [(3, .int (iI (x / 32))), (0, .ref h0), (1, .int (iI x)), (2, .int (iI on))] dX4_set_3 (by decide) rfl rfl ?_
  refine v_iload_n fx 0 dX4_set_4 rfl rfl ?_
  refine v_if_lt fx 17 dX4_set_5 (by decide) rfl (by omega) (fun h0 => absurd h0 (by omega)) (fun h_1 => ?_)
  refine v_iload_n fx 0 dX4_set_8 rfl rfl ?_
  refine v_aload_n fx 1 dX4_set_9 rfl rfl ?_
  refine v_get fx 0 1 inX4 k92 dX4_set_10 rfl rfl (by decide) rfl rfl rfl ?_
  refine v_alen fx 1 0 (n : Int) dX4_set_13 rfl rfl rfl rfl ?_
  refine v_icmp_lt fx 18 dX4_set_14 (by decide) rfl (by omega) (by omega) (fun h_2 => ?_) (fun h0 => absurd h0 (by omega))
  refine v_iconst fx dX4_set_18 rfl ?_
  refine v_iload_n fx 2 dX4_set_19 rfl rfl ?_
  refine v_bipush fx dX4_set_20 (by decide +kernel) rfl ?_
  refine v_iand fx (iI (x % 32)) dX4_set_22 (iI_and (by omega) 5 (by decide +kernel)) rfl ?_
  obtain ⟨t_3, et_3⟩ : ∃ x9 : Int32, (iI 1) <<< ((iI (x % 32)) &&& 31) = x9 := ⟨_, rfl⟩
  refine v_ishl fx t_3 dX4_set_23 et_3 rfl ?_
  refine v_istore fx [(4, .int t_3), (3, .int (iI (x / 32))), (0, .ref h0), (1, .int (iI x)), (2, .int (iI on))] dX4_set_24 (by decide) rfl rfl ?_
  refine v_aload_n fx 2 dX4_set_26 rfl rfl ?_
  refine v_get fx 0 1 inX4 k92 dX4_set_27 rfl rfl (by decide) rfl rfl rfl ?_
  refine v_iload_n fx 1 dX4_set_30 rfl rfl ?_
  refine v_iload_n fx 4 dX4_set_31 rfl rfl ?_
  refine v_if_eq fx 47 dX4_set_32 (by decide) rfl (by omega) (fun h_4 => ?_) (fun h_4 => ?_)
  ·
    refine v_aload_n fx 2 dX4_set_47 rfl rfl ?_
    refine v_get fx 0 1 inX4 k92 dX4_set_48 rfl rfl (by decide) rfl rfl rfl ?_
    refine v_iload_n fx 1 dX4_set_51 rfl rfl ?_
    refine v_iald fx 1 dX4_set_52 rfl (by omega) (by omega) rfl ?_
    refine v_iload fx 0 dX4_set_53 rfl rfl ?_
    refine v_iconst fx dX4_set_55 rfl ?_
    obtain ⟨t_5, et_5⟩ : ∃ x9 : Int32, t_3 ^^^ (iI (-1)) = x9 := ⟨_, rfl⟩
    refine v_ixor fx t_5 dX4_set_56 et_5 rfl ?_
    obtain ⟨t_6, et_6⟩ : ∃ x9 : Int32, (f (x / 32).toNat) &&& t_5 = x9 := ⟨_, rfl⟩
    refine v_iand fx t_6 dX4_set_57 et_6 rfl ?_
    obtain ⟨f_7, ef_7⟩ : ∃ f9 : Nat → Int32, upd f (x / 32).toNat t_6 = f9 := ⟨_, rfl⟩
    refine v_iast fx 1 f_7 [(h0, ob 4 [.int sw, .ref h1]), (h1, aI g n f_7)] dX4_set_58 rfl (by omega) (by omega) ef_7 rfl rfl ?_
    exact v_vret fx [(h0, ob 4 [.int sw, .ref h1]), (h1, aI g n f_7)] [0, 1] hr dX4_set_59 rfl rfl (nl rfl) (nl rfl) ⟨f_7, rfl, rfl, (by first | (rw [show decide (on = 1) = true by exact decide_eq_true (by omega)]; exact set_1 (by assumption) (by assumption) (by assumption) (by omega)) | (rw [show decide (on = 1) = false by exact decide_eq_false (by omega)]; exact set_0 (by assumption) (by assumption) (by assumption) (by assumption) (by omega)))⟩
  ·
    refine v_aload_n fx 2 dX4_set_35 rfl rfl ?_
    refine v_get fx 0 1 inX4 k92 dX4_set_36 rfl rfl (by decide) rfl rfl rfl ?_
    refine v_iload_n fx 1 dX4_set_39 rfl rfl ?_
    refine v_iald fx 1 dX4_set_40 rfl (by omega) (by omega) rfl ?_
    refine v_iload fx 0 dX4_set_41 rfl rfl ?_
    obtain ⟨t_8, et_8⟩ : ∃ x9 : Int32, (f (x / 32).toNat) ||| t_3 = x9 := ⟨_, rfl⟩
    refine v_ior fx t_8 dX4_set_43 et_8 rfl ?_
    refine v_goto fx 58 dX4_set_44 (by decide) ?_
    obtain ⟨f_9, ef_9⟩ : ∃ f9 : Nat → Int32, upd f (x / 32).toNat t_8 = f9 := ⟨_, rfl⟩
    refine v_iast fx 1 f_9 [(h0, ob 4 [.int sw, .ref h1]), (h1, aI g n f_9)] dX4_set_58 rfl (by omega) (by omega) ef_9 rfl rfl ?_
    exact v_vret fx [(h0, ob 4 [.int sw, .ref h1]), (h1, aI g n f_9)] [0, 1] hr dX4_set_59 rfl rfl (nl rfl) (nl rfl) ⟨f_9, rfl, rfl, (by first | (rw [show decide (on = 1) = true by exact decide_eq_true (by omega)]; exact set_1 (by assumption) (by assumption) (by assumption) (by omega)) | (rw [show decide (on = 1) = false by exact decide_eq_false (by omega)]; exact set_0 (by assumption) (by assumption) (by assumption) (by assumption) (by omega)))⟩
abbrev po_c_X4_whiten_e (g : GG) (h0 : Nat) (h1 : Nat) (n : Nat) (f : Nat → Int32) (sw : Int32) : Option Value → va_W → Prop := fun v8 w8 => ∃ f2 : Nat → Int32, v8 = none ∧ w8 = [(h0, ob 4 [.int sw, .ref h1]), (h1, aI g n f2)] ∧ (∀ j : Nat, j < n → f2 j = 0)
set_option maxHeartbeats 4000000 in
set_option maxRecDepth 100000 in
theorem c_X4_whiten_e (l : Launch) (g : GG) (h0 : Nat) (h1 : Nat) (n : Nat) (f : Nat → Int32) (sw : Int32) (hp0 : n < 1000000) : Ct l g yX4_whiten (wM yX4_whiten cX4_whiten 1 none) (rmD 1 0 0) [.ref h0] [(h0, ob 4 [.int sw, .ref h1]), (h1, aI g n f)] (po_c_X4_whiten_e g h0 h1 n f sw) := by
  refine Ct_of (by decide +kernel) (Nat.le_of_ble_eq_true rfl) ?_
  intro p9 e9 s9 m9 ag9 bl9 mt9 c9 A9 fx hr hnm
  refine v_aload_n fx 0 dX4_whiten_0 rfl rfl ?_
  refine v_get fx 0 1 inX4 k92 dX4_whiten_1 rfl rfl (by decide) rfl rfl rfl ?_
  refine v_iconst fx dX4_whiten_4 rfl ?_
  refine v_callS (As := [.ref h1, .int (iI 0)]) (rest := []) fx [1] [0] [(h1, aI g n f)] [(h0, ob 4 [.int sw, .ref h1])] 2 (c_J7_fillw_z l g h1 n f (by first | omega | decide | assumption)) dX4_whiten_5 k351 k352 k55 k353 ykJ7_fill_53178 rfl rfl rfl rfl rfl (nl rfl) ⟨nl rfl, nl rfl⟩ ⟨(nl rfl), (nl rfl)⟩ rfl (fun v9 w9 hu => ?_)
  obtain ⟨f2_1, rfl, rfl, u_2⟩ := hu
  refine v_is (wn := [(h0, ob 4 [.int sw, .ref h1]), (h1, aI g n f2_1)]) (cn := 0) (sn := 0) (sn2 := []) rfl rfl rfl rfl ?_
  exact v_vret fx [(h0, ob 4 [.int sw, .ref h1]), (h1, aI g n f2_1)] [0, 1] hr dX4_whiten_8 rfl rfl (nl rfl) (nl rfl) ⟨f2_1, rfl, rfl, (by assumption)⟩
abbrev po_c_X4_addPlaces_e (g : GG) (h0 : Nat) (sa : Nat) (w : Int) (ls : Nat) (h1 : Nat) (it : Nat) (n : Nat) (c : Int) (F : Nat → Int) (fs : Nat → Int32) (fi : Nat → Int32) (ch : Int32) (st : Int) (fw : Nat → Int32) : Option Value → va_W → Nat → Nat → Prop := fun v8 w8 kc8 ks8 => ∃ i2 : Nat, ∃ n2 : Nat, ∃ s2 : Nat → Int32, ∃ f2 : Nat → Int32, ∃ e2 : Int, ∃ pe : Int, v8 = none ∧ w8 = [(h0, ob 4 [.int (iI w), .ref sa]), (ls, ob 2 [.ref h1, .ref i2, .int (iI c)]), (h1, aI g 27 s2), (i2, aI g n2 f2)] ∧ (LB c (fU F (c.toNat + 1) e2) s2 n2) ∧ (ks8 + 2 * n ≤ 2 * n2 ∧ 64 * kc8 ≤ ks8 ∧ n ≤ n2 ∧ n2 ≤ 160000) ∧ (∀ j : Nat, (j : Int) < F c.toNat → f2 j = fi j) ∧ (F c.toNat ≤ e2) ∧ (inc f2 (F c.toNat) e2 (st + 32)) ∧ (inc f2 (F c.toNat) e2 w) ∧ (RowQ fw f2 (F c.toNat) e2 pe) ∧ (pe ≤ w ∧ pe ≤ st + 32 ∧ (pe = w ∨ pe = st + 32)) ∧ (inc f2 (F c.toNat) e2 pe)
set_option maxHeartbeats 4000000 in
set_option maxRecDepth 100000 in
theorem c_X4_addPlaces_e (l : Launch) (g : GG) (h0 : Nat) (sa : Nat) (w : Int) (ls : Nat) (h1 : Nat) (it : Nat) (n : Nat) (c : Int) (F : Nat → Int) (fs : Nat → Int32) (fi : Nat → Int32) (ch : Int32) (st : Int) (fw : Nat → Int32) (hp0 : LB c F fs n) (hp1 : RI w c F fi) (hp2 : inc fi (F c.toNat) (F (c.toNat + 1)) st) (hp3 : 0 ≤ st ∧ st < w) (hp4 : 1 ≤ w ∧ w ≤ 3000) (hp5 : n ≤ 160000) (hp6 : c ≤ 24) (hp7 : ∀ j : Nat, j < 32 → ch.toBitVec.getLsbD j = (sBit fw (st + j) ^^ prevB fw (st + j))) (hp8 : RowQ fw fi (F c.toNat) (F (c.toNat + 1)) st) : CtE l g yX4_addPlaces (wM yX4_addPlaces cX4_addPlaces 5 none) (rmD 3 6000 650000) [.ref h0, .int ch, .int (iI st), .ref ls] [(h0, ob 4 [.int (iI w), .ref sa]), (ls, ob 2 [.ref h1, .ref it, .int (iI c)]), (h1, aI g 27 fs), (it, aI g n fi)] (po_c_X4_addPlaces_e g h0 sa w ls h1 it n c F fs fi ch st fw) := by
  refine CtE_of (by decide +kernel) (Nat.le_of_ble_eq_true rfl) ?_
  intro p9 e9 s9 m9 ag9 bl9 mt9 c9 A9 fx hr hnm
  have hc := LB_c hp0
  have hlen := LB_len hp0 (x := c) (by omega)
  have hFc := RI_len hp0 hp1 (by omega) c.toNat (by omega)
  have hopen := inc_len hp2 (by omega)
  have hF0 := LB_pos hp0 (x := c) (by omega)
  refine v_iconst fx dX4_addPlaces_0 rfl ?_
  refine v_istore fx [(4, .int (iI 0)), (0, .ref h0), (1, .int ch), (2, .int (iI st)), (3, .ref ls)] dX4_addPlaces_1 (by decide) rfl rfl ?_
  have L3 : ∀ (N : Nat) (i : Int) (e1 : Int) (t1 : Nat) (n1 : Nat) (s1 : Nat → Int32) (f1 : Nat → Int32) (cl : Nat) (sl : Nat), (0 ≤ i ∧ i ≤ 32 ∧ st + i ≤ w) → (LB c (fU F (c.toNat + 1) e1) s1 n1) → (∀ j : Nat, (j : Int) < F c.toNat → f1 j = fi j) → (inc f1 (F c.toNat) e1 (st + i)) → (n1 ≤ 160000 ∧ n ≤ n1 ∧ sl + 2 * n ≤ 2 * n1 ∧ 64 * cl ≤ sl) → (F c.toNat ≤ e1) → (RowQ fw f1 (F c.toNat) e1 (st + i)) → ((32 - i).toNat) < N → V p9 l e9 (rmD 3 6000 650000) s9 m9 ag9 bl9 mt9 c9 5 g A9 (MQE bl9 (cQE g (po_c_X4_addPlaces_e g h0 sa w ls h1 it n c F fs fi ch st fw) A9) ag9 s9 A9) [(h0, ob 4 [.int (iI w), .ref sa]), (ls, ob 2 [.ref h1, .ref t1, .int (iI c)]), (h1, aI g 27 s1), (t1, aI g n1 f1)] cl sl [(0, .ref h0), (1, .int ch), (2, .int (iI st)), (3, .ref ls), (4, .int (iI i))] 3 [] := by
    intro N
    induction N with
    | zero => intro i e1 t1 n1 s1 f1 cl sl hi3_0 hi3_1 hi3_2 hi3_3 hi3_4 hi3_5 hi3_6 hN; exact absurd hN (Nat.not_lt_zero _)
    | succ N ihL3 =>
      intro i e1 t1 n1 s1 f1 cl sl hi3_0 hi3_1 hi3_2 hi3_3 hi3_4 hi3_5 hi3_6 hN3
      have hlen1 := inc_len hi3_3 (by omega)
      have hn1 := LB_n hi3_1
      refine v_iload fx 4 dX4_addPlaces_3 rfl rfl ?_
      refine v_bipush fx dX4_addPlaces_5 (by decide +kernel) rfl ?_
      refine v_icmp_ge fx 45 dX4_addPlaces_7 (by decide) rfl (by omega) (by omega) (fun h_1 => ?_) (fun h_1 => ?_)
      ·
        exact v_vretE fx [(h0, ob 4 [.int (iI w), .ref sa]), (ls, ob 2 [.ref h1, .ref t1, .int (iI c)]), (h1, aI g 27 s1), (t1, aI g n1 f1)] [0, 1, 2, 3] hr dX4_addPlaces_45 rfl rfl ⟨t1, n1, s1, f1, e1, (st + i), rfl, rfl, (by exact hi3_1), (by first | omega | rfl | assumption), (by exact hi3_2), (by first | omega | rfl | assumption), (by exact inc_mono hi3_3 (by omega)), (by exact inc_mono hi3_3 (by omega)), (by exact hi3_6), (by first | omega | rfl | assumption), (by exact hi3_3)⟩
      ·
        refine v_iload_n fx 2 dX4_addPlaces_10 rfl rfl ?_
        refine v_iload fx 4 dX4_addPlaces_11 rfl rfl ?_
        refine v_iadd fx (st + i) dX4_addPlaces_13 (by rfl) rfl ?_
        refine v_aload_n fx 0 dX4_addPlaces_14 rfl rfl ?_
        refine v_get fx 0 0 inX4 k91 dX4_addPlaces_15 rfl rfl (by decide) rfl rfl rfl ?_
        refine v_icmp_ge fx 45 dX4_addPlaces_18 (by decide) rfl (by omega) (by omega) (fun h_2 => ?_) (fun h_2 => ?_)
        ·
          exact v_vretE fx [(h0, ob 4 [.int (iI w), .ref sa]), (ls, ob 2 [.ref h1, .ref t1, .int (iI c)]), (h1, aI g 27 s1), (t1, aI g n1 f1)] [0, 1, 2, 3] hr dX4_addPlaces_45 rfl rfl ⟨t1, n1, s1, f1, e1, (st + i), rfl, rfl, (by exact hi3_1), (by first | omega | rfl | assumption), (by exact hi3_2), (by first | omega | rfl | assumption), (by exact inc_mono hi3_3 (by omega)), (by exact inc_mono hi3_3 (by omega)), (by exact hi3_6), (by first | omega | rfl | assumption), (by exact hi3_3)⟩
        ·
          refine v_iload_n fx 1 dX4_addPlaces_21 rfl rfl ?_
          refine v_iload fx 4 dX4_addPlaces_22 rfl rfl ?_
          obtain ⟨t_3, et_3⟩ : ∃ x9 : Int32, ch >>> ((iI i) &&& 31) = x9 := ⟨_, rfl⟩
          refine v_ishr fx t_3 dX4_addPlaces_24 et_3 rfl ?_
          refine v_iconst fx dX4_addPlaces_25 rfl ?_
          obtain ⟨t_4, et_4⟩ : ∃ x9 : Int32, t_3 &&& (iI 1) = x9 := ⟨_, rfl⟩
          refine v_iand fx t_4 dX4_addPlaces_26 et_4 rfl ?_
          refine v_any (fun z_5 hz_5 ez_5 => ?_)
          have hcz := chz (by assumption) (by assumption) ez_5 hz_5 (by omega)
          refine v_iconst fx dX4_addPlaces_27 rfl ?_
          refine v_icmp_ne fx 39 dX4_addPlaces_28 (by decide) rfl (by omega) (by omega) (fun h_6 => ?_) (fun h_6 => ?_)
          ·
            have hcb := (hcz.resolve_left (fun h => h_6 h.1)).2
            clear hcz
            have hQn := RowQ_n hi3_6 hi3_3 (by omega) (by omega) (ch_n (w := w) hp7 (by omega) hcb)
            rw [show st + i + 1 = st + (i + 1) by omega] at hQn
            refine v_iinc fx 4 (i + 1) [(4, .int (iI (i + 1))), (0, .ref h0), (1, .int ch), (2, .int (iI st)), (3, .ref ls)] dX4_addPlaces_39 rfl (by omega) (by decide) rfl rfl ?_
            refine v_goto fx 3 dX4_addPlaces_42 (by decide) ?_
            refine v_lv [1, 2, 3, 4, 0] [(0, .ref h0), (1, .int ch), (2, .int (iI st)), (3, .ref ls), (4, .int (iI (i + 1)))] rfl ?_
            exact ihL3 (i + 1) e1 t1 n1 s1 f1 cl sl (by omega) (by assumption) (by first | exact hi3_2 | (intro j hj; rw [hkeep j (by omega)]; exact hi3_2 j hj)) (by first | exact hinc | exact inc_mono hi3_3 (by omega)) (by omega) (by omega) (by first | exact hQc | exact hQn) (by omega)
          ·
            have hcb := (hcz.resolve_right (fun h => by omega)).2
            clear hcz
            refine v_aload_n fx 3 dX4_addPlaces_31 rfl rfl ?_
            refine v_iload_n fx 2 dX4_addPlaces_32 rfl rfl ?_
            refine v_iload fx 4 dX4_addPlaces_33 rfl rfl ?_
            refine v_iadd fx (st + i) dX4_addPlaces_35 (by rfl) rfl ?_
            refine v_callVE (As := [.int (iI (st + i))]) (rest := []) fx [1, 2, 3] [0] [(ls, ob 2 [.ref h1, .ref t1, .int (iI c)]), (h1, aI g 27 s1), (t1, aI g n1 f1)] [(h0, ob 4 [.int (iI w), .ref sa])] 1 0 (c_X2_append l g ls h1 t1 n1 c (fU F (c.toNat + 1) e1) s1 f1 (iI (st + i)) (by exact hi3_1) (by rw [fU_s]; omega) (by omega)) dX4_addPlaces_36 k334 k335 k336 k49 k337 ykX2_append rfl rfl rfl rfl rfl rfl rfl rfl (nl rfl) ⟨nl rfl, nl rfl⟩ ⟨(by show cl + 1 ≤ 6000; omega), (by show sl + (2 * n1) ≤ 650000; omega)⟩ rfl (fun v9 w9 kc_7 ks_8 hu => ?_)
            obtain ⟨ti, ni, si, fj, rfl, rfl, u_9, u_10, u_11, u_12⟩ := hu
            refine v_is (wn := [(h0, ob 4 [.int (iI w), .ref sa]), (ls, ob 2 [.ref h1, .ref ti, .int (iI c)]), (h1, aI g 27 si), (ti, aI g ni fj)]) (cn := cl + kc_7) (sn := sl + ks_8) (sn2 := []) rfl rfl rfl rfl ?_
            simp only [fU_s, fU_fU] at u_9 u_11 u_12
            have hinc := inc_app (p2 := st + (i + 1)) hi3_3 (by omega) u_11 u_12 (by omega)
            have hkeep := u_11
            have hQc := RowQ_c hi3_6 hi3_3 (by omega) (by omega) (ch_y (w := w) hp7 (by omega) hcb) u_11 u_12
            rw [show st + i + 1 = st + (i + 1) by omega] at hQc
            refine v_iinc fx 4 (i + 1) [(4, .int (iI (i + 1))), (0, .ref h0), (1, .int ch), (2, .int (iI st)), (3, .ref ls)] dX4_addPlaces_39 rfl (by omega) (by decide) rfl rfl ?_
            refine v_goto fx 3 dX4_addPlaces_42 (by decide) ?_
            refine v_lv [1, 2, 3, 4, 0] [(0, .ref h0), (1, .int ch), (2, .int (iI st)), (3, .ref ls), (4, .int (iI (i + 1)))] rfl ?_
            exact ihL3 (i + 1) (e1 + 1) ti ni si fj (cl + kc_7) (sl + ks_8) (by omega) (by assumption) (by first | exact hi3_2 | (intro j hj; rw [hkeep j (by omega)]; exact hi3_2 j hj)) (by first | exact hinc | exact inc_mono hi3_3 (by omega)) (by omega) (by omega) (by first | exact hQc | exact hQn) (by omega)
  refine v_lv [1, 2, 3, 4, 0] [(0, .ref h0), (1, .int ch), (2, .int (iI st)), (3, .ref ls), (4, .int (iI 0))] rfl ?_
  exact L3 _ 0 (F (c.toNat + 1)) it n fs fi 0 0 (by omega) (by rw [fU_same]; exact hp0) (by intro j hj; rfl) (by simpa using hp2) (by omega) (by omega) (by simpa using hp8) (Nat.lt_succ_self _)
abbrev po_c_X4_addChangesTo_e (g : GG) (h0 : Nat) (sa : Nat) (w : Int) (fw : Nat → Int32) (ls : Nat) (h1 : Nat) (it : Nat) (n : Nat) (c : Int) (F : Nat → Int) (fs : Nat → Int32) (fi : Nat → Int32) : Option Value → va_W → Nat → Nat → Prop := fun v8 w8 kc8 ks8 => ∃ i2 : Nat, ∃ n2 : Nat, ∃ s2 : Nat → Int32, ∃ f2 : Nat → Int32, ∃ e2 : Int, v8 = none ∧ w8 = [(h0, ob 4 [.int (iI w), .ref sa]), (sa, aI g (((w + 31) / 32).toNat) fw), (ls, ob 2 [.ref h1, .ref i2, .int (iI c)]), (h1, aI g 27 s2), (i2, aI g n2 f2)] ∧ (LB c (fU F (c.toNat + 1) e2) s2 n2) ∧ (ks8 + 2 * n ≤ 2 * n2 ∧ 64 * kc8 ≤ ks8 ∧ n ≤ n2 ∧ n2 ≤ 160000) ∧ (∀ j : Nat, (j : Int) < F c.toNat → f2 j = fi j) ∧ (F c.toNat ≤ e2) ∧ (inc f2 (F c.toNat) e2 w) ∧ (RowQ fw f2 (F c.toNat) e2 w)
set_option maxHeartbeats 4000000 in
set_option maxRecDepth 100000 in
theorem c_X4_addChangesTo_e (l : Launch) (g : GG) (h0 : Nat) (sa : Nat) (w : Int) (fw : Nat → Int32) (ls : Nat) (h1 : Nat) (it : Nat) (n : Nat) (c : Int) (F : Nat → Int) (fs : Nat → Int32) (fi : Nat → Int32) (hp0 : LB c F fs n) (hp1 : RI w c F fi) (hp2 : F (c.toNat + 1) = F c.toNat) (hp3 : 1 ≤ w ∧ w ≤ 3000) (hp4 : n ≤ 160000) (hp5 : c ≤ 24) : CtE l g yX4_addChangesTo (wM yX4_addChangesTo cX4_addChangesTo 5 none) (rmD 4 (6000 + 5001) 1290000) [.ref h0, .ref ls] [(h0, ob 4 [.int (iI w), .ref sa]), (sa, aI g (((w + 31) / 32).toNat) fw), (ls, ob 2 [.ref h1, .ref it, .int (iI c)]), (h1, aI g 27 fs), (it, aI g n fi)] (po_c_X4_addChangesTo_e g h0 sa w fw ls h1 it n c F fs fi) := by
  refine CtE_of (by decide +kernel) (Nat.le_of_ble_eq_true rfl) ?_
  intro p9 e9 s9 m9 ag9 bl9 mt9 c9 A9 fx hr hnm
  have hc := LB_c hp0
  have hlen := LB_len hp0 (x := c) (by omega)
  refine v_iconst fx dX4_addChangesTo_0 rfl ?_
  refine v_istore_n fx [(2, .int (iI 0)), (0, .ref h0), (1, .ref ls)] dX4_addChangesTo_1 (by decide) rfl rfl ?_
  refine v_iconst fx dX4_addChangesTo_2 rfl ?_
  refine v_istore_n fx [(3, .int (iI 0)), (2, .int (iI 0)), (0, .ref h0), (1, .ref ls)] dX4_addChangesTo_3 (by decide) rfl rfl ?_
  have L4 : ∀ (N : Nat) (i : Int) (bf : Int32) (e1 : Int) (t1 : Nat) (n1 : Nat) (s1 : Nat → Int32) (f1 : Nat → Int32) (cl : Nat) (sl : Nat) (pi : Int), (0 ≤ i ∧ i ≤ (w + 31) / 32) → (LB c (fU F (c.toNat + 1) e1) s1 n1) → (∀ j : Nat, (j : Int) < F c.toNat → f1 j = fi j) → (inc f1 (F c.toNat) e1 (32 * i)) → (inc f1 (F c.toNat) e1 w) → (n1 ≤ 160000 ∧ n ≤ n1 ∧ sl + 2 * n ≤ 2 * n1 ∧ 64 * cl ≤ sl) → (F c.toNat ≤ e1) → (pi = min (32 * i) w) → (RowQ fw f1 (F c.toNat) e1 pi) → (BfI fw bf i) → (((w + 31) / 32 - i).toNat) < N → V p9 l e9 (rmD 4 (6000 + 5001) 1290000) s9 m9 ag9 bl9 mt9 c9 5 g A9 (MQE bl9 (cQE g (po_c_X4_addChangesTo_e g h0 sa w fw ls h1 it n c F fs fi) A9) ag9 s9 A9) [(h0, ob 4 [.int (iI w), .ref sa]), (sa, aI g (((w + 31) / 32).toNat) fw), (ls, ob 2 [.ref h1, .ref t1, .int (iI c)]), (h1, aI g 27 s1), (t1, aI g n1 f1)] cl sl [(0, .ref h0), (1, .ref ls), (2, .int bf), (3, .int (iI i))] 4 [] := by
    intro N
    induction N with
    | zero => intro i bf e1 t1 n1 s1 f1 cl sl pi hi4_0 hi4_1 hi4_2 hi4_3 hi4_4 hi4_5 hi4_6 hi4_7 hi4_8 hi4_9 hN; exact absurd hN (Nat.not_lt_zero _)
    | succ N ihL4 =>
      intro i bf e1 t1 n1 s1 f1 cl sl pi hi4_0 hi4_1 hi4_2 hi4_3 hi4_4 hi4_5 hi4_6 hi4_7 hi4_8 hi4_9 hN4
      refine v_iload_n fx 3 dX4_addChangesTo_4 rfl rfl ?_
      refine v_aload_n fx 0 dX4_addChangesTo_5 rfl rfl ?_
      refine v_get fx 0 1 inX4 k92 dX4_addChangesTo_6 rfl rfl (by decide) rfl rfl rfl ?_
      refine v_alen fx 1 0 ((w + 31) / 32) dX4_addChangesTo_9 rfl rfl (by show ((((w + 31) / 32).toNat : Nat) : Int) = (w + 31) / 32; omega) rfl ?_
      refine v_icmp_ge fx 63 dX4_addChangesTo_10 (by decide) rfl (by omega) (by omega) (fun h_1 => ?_) (fun h_1 => ?_)
      ·
        exact v_vretE fx [(h0, ob 4 [.int (iI w), .ref sa]), (sa, aI g (((w + 31) / 32).toNat) fw), (ls, ob 2 [.ref h1, .ref t1, .int (iI c)]), (h1, aI g 27 s1), (t1, aI g n1 f1)] [0, 1, 2, 3, 4] hr dX4_addChangesTo_63 rfl rfl ⟨t1, n1, s1, f1, e1, rfl, rfl, (by exact hi4_1), (by first | omega | rfl | assumption), (by exact hi4_2), (by first | omega | rfl | assumption), (by exact hi4_4), (by rw [show w = pi by omega]; exact hi4_8)⟩
      ·
        refine v_aload_n fx 0 dX4_addChangesTo_13 rfl rfl ?_
        refine v_get fx 0 1 inX4 k92 dX4_addChangesTo_14 rfl rfl (by decide) rfl rfl rfl ?_
        refine v_iload_n fx 3 dX4_addChangesTo_17 rfl rfl ?_
        refine v_iald fx 1 dX4_addChangesTo_18 rfl (by omega) (by omega) rfl ?_
        refine v_aload_n fx 0 dX4_addChangesTo_19 rfl rfl ?_
        refine v_get fx 0 1 inX4 k92 dX4_addChangesTo_20 rfl rfl (by decide) rfl rfl rfl ?_
        refine v_iload_n fx 3 dX4_addChangesTo_23 rfl rfl ?_
        refine v_iald fx 1 dX4_addChangesTo_24 rfl (by omega) (by omega) rfl ?_
        refine v_iconst fx dX4_addChangesTo_25 rfl ?_
        obtain ⟨t_2, et_2⟩ : ∃ x9 : Int32, (fw (i).toNat) <<< ((iI 1) &&& 31) = x9 := ⟨_, rfl⟩
        refine v_ishl fx t_2 dX4_addChangesTo_26 et_2 rfl ?_
        refine v_iload_n fx 2 dX4_addChangesTo_27 rfl rfl ?_
        obtain ⟨t_3, et_3⟩ : ∃ x9 : Int32, t_2 ||| bf = x9 := ⟨_, rfl⟩
        refine v_ior fx t_3 dX4_addChangesTo_28 et_3 rfl ?_
        obtain ⟨t_4, et_4⟩ : ∃ x9 : Int32, (fw (i).toNat) ^^^ t_3 = x9 := ⟨_, rfl⟩
        refine v_ixor fx t_4 dX4_addChangesTo_29 et_4 rfl ?_
        have hch := chb (by assumption) (by assumption) (by assumption) hi4_9 (by omega)
        have hpi : pi = 32 * i := by omega
        refine v_istore fx [(4, .int t_4), (0, .ref h0), (1, .ref ls), (2, .int bf), (3, .int (iI i))] dX4_addChangesTo_30 (by decide) rfl rfl ?_
        refine v_iload fx 0 dX4_addChangesTo_32 rfl rfl ?_
        refine v_any (fun z_5 hz_5 ez_5 => ?_)
        refine v_if_eq fx 47 dX4_addChangesTo_34 (by decide) rfl (by omega) (fun h_6 => ?_) (fun h_6 => ?_)
        ·
          have hQ1 : RowQ fw f1 (F c.toNat) e1 (min (32 * i + 32) w) := ch_0 hch (by assumption) h_6 (hpi ▸ hi4_8) hi4_3 (by omega) (by omega) (by omega)
          refine v_aload_n fx 1 dX4_addChangesTo_47 rfl rfl ?_
          refine v_get fx 0 1 inX4 k92 dX4_addChangesTo_48 rfl rfl (by decide) rfl rfl rfl ?_
          refine v_iload_n fx 4 dX4_addChangesTo_51 rfl rfl ?_
          refine v_iald fx 1 dX4_addChangesTo_52 rfl (by omega) (by omega) rfl ?_
          refine v_bipush fx dX4_addChangesTo_53 (by decide +kernel) rfl ?_
          obtain ⟨t_7, et_7⟩ : ∃ x9 : Int32, (((fw (i).toNat)).toUInt32 >>> (((iI 31)).toUInt32 &&& Int32.toUInt32 31)).toInt32 = x9 := ⟨_, rfl⟩
          refine v_iushr fx t_7 dX4_addChangesTo_55 et_7 rfl ?_
          refine v_istore_n fx [(2, .int t_7), (4, .int t_4), (0, .ref h0), (1, .ref ls), (3, .int (iI i))] dX4_addChangesTo_56 (by decide) rfl rfl ?_
          refine v_iinc fx 4 (i + 1) [(3, .int (iI (i + 1))), (2, .int t_7), (4, .int t_4), (0, .ref h0), (1, .ref ls)] dX4_addChangesTo_57 rfl (by omega) (by decide) rfl rfl ?_
          refine v_goto fx 4 dX4_addChangesTo_60 (by decide) ?_
          refine v_lv [3, 4, 1, 0] [(0, .ref h0), (1, .ref ls), (2, .int t_7), (3, .int (iI (i + 1)))] rfl ?_
          exact ihL4 (i + 1) t_7 e1 t1 n1 s1 f1 cl sl (min (32 * i + 32) w) (by omega) (by first | exact hi4_1 | assumption) (by first | exact hi4_2 | (intro j hj; rw [hkeep j hj]; exact hi4_2 j hj)) (by first | exact inc_mono hi4_3 (by omega) | exact inc_mono hinc (by omega)) (by first | exact hi4_4 | assumption) (by omega) (by omega) (by omega) (by first | exact hQ2 | exact hQ1) (by exact BfI_n (by assumption) (by omega)) (by omega)
        ·
          refine v_aload_n fx 1 dX4_addChangesTo_37 rfl rfl ?_
          refine v_iload fx 0 dX4_addChangesTo_38 rfl rfl ?_
          refine v_iload_n fx 4 dX4_addChangesTo_40 rfl rfl ?_
          refine v_iconst fx dX4_addChangesTo_41 rfl ?_
          refine v_ishl fx (iI (32 * i)) dX4_addChangesTo_42 (iI_shl5 (by omega)) rfl ?_
          refine v_aload_n fx 2 dX4_addChangesTo_43 rfl rfl ?_
          refine v_callVE (As := [.int t_4, .int (iI (32 * i)), .ref ls]) (rest := []) fx [0, 2, 3, 4] [1] [(h0, ob 4 [.int (iI w), .ref sa]), (ls, ob 2 [.ref h1, .ref t1, .int (iI c)]), (h1, aI g 27 s1), (t1, aI g n1 f1)] [(sa, aI g (((w + 31) / 32).toNat) fw)] 3 0 (c_X4_addPlaces_e l g h0 sa w ls h1 t1 n1 c (fU F (c.toNat + 1) e1) s1 f1 t_4 (32 * i) fw (by exact hi4_1) (by exact RI_keep hp0 hp1 (E := F c.toNat) (Int.le_refl _) hi4_2 _) (by rw [fU_s, fU_b]; exact hi4_3) (by first | omega | decide | assumption) (by first | omega | decide | assumption) (by first | omega | decide | assumption) (by first | omega | decide | assumption) (by first | exact hch | (rw [← (by assumption : _ = iI _)]; exact hch)) (by rw [fU_s, fU_b]; exact hpi ▸ hi4_8)) dX4_addChangesTo_44 k330 k332 k4 k48 k333 ykX4_addPlaces rfl rfl rfl rfl rfl rfl rfl rfl (nl rfl) ⟨nl rfl, nl rfl⟩ ⟨(by show cl + 6000 ≤ (6000 + 5001); omega), (by show sl + 650000 ≤ 1290000; omega)⟩ rfl (fun v9 w9 kc_8 ks_9 hu => ?_)
          obtain ⟨i2_10, n2_11, s2_12, fj, e2_13, pe_14, rfl, rfl, u_15, u_16, u_17, u_18, u_19, u_20, u_21, u_22, u_23⟩ := hu
          refine v_is (wn := [(sa, aI g (((w + 31) / 32).toNat) fw), (h0, ob 4 [.int (iI w), .ref sa]), (ls, ob 2 [.ref h1, .ref i2_10, .int (iI c)]), (h1, aI g 27 s2_12), (i2_10, aI g n2_11 fj)]) (cn := cl + kc_8) (sn := sl + ks_9) (sn2 := []) rfl rfl rfl rfl ?_
          simp only [fU_fU, fU_b] at u_15 u_17 u_18 u_19 u_20 u_21
          have hinc := u_19
          have hkeep := u_17
          have hQ2 := u_21
          refine v_aload_n fx 1 dX4_addChangesTo_47 rfl rfl ?_
          refine v_get fx 1 1 inX4 k92 dX4_addChangesTo_48 rfl rfl (by decide) rfl rfl rfl ?_
          refine v_iload_n fx 4 dX4_addChangesTo_51 rfl rfl ?_
          refine v_iald fx 0 dX4_addChangesTo_52 rfl (by omega) (by omega) rfl ?_
          refine v_bipush fx dX4_addChangesTo_53 (by decide +kernel) rfl ?_
          obtain ⟨t_24, et_24⟩ : ∃ x9 : Int32, (((fw (i).toNat)).toUInt32 >>> (((iI 31)).toUInt32 &&& Int32.toUInt32 31)).toInt32 = x9 := ⟨_, rfl⟩
          refine v_iushr fx t_24 dX4_addChangesTo_55 et_24 rfl ?_
          refine v_istore_n fx [(2, .int t_24), (4, .int t_4), (0, .ref h0), (1, .ref ls), (3, .int (iI i))] dX4_addChangesTo_56 (by decide) rfl rfl ?_
          refine v_iinc fx 4 (i + 1) [(3, .int (iI (i + 1))), (2, .int t_24), (4, .int t_4), (0, .ref h0), (1, .ref ls)] dX4_addChangesTo_57 rfl (by omega) (by decide) rfl rfl ?_
          refine v_goto fx 4 dX4_addChangesTo_60 (by decide) ?_
          refine v_ws [1, 0, 2, 3, 4] [(h0, ob 4 [.int (iI w), .ref sa]), (sa, aI g (((w + 31) / 32).toNat) fw), (ls, ob 2 [.ref h1, .ref i2_10, .int (iI c)]), (h1, aI g 27 s2_12), (i2_10, aI g n2_11 fj)] rfl rfl ?_
          refine v_lv [3, 4, 1, 0] [(0, .ref h0), (1, .ref ls), (2, .int t_24), (3, .int (iI (i + 1)))] rfl ?_
          exact ihL4 (i + 1) t_24 e2_13 i2_10 n2_11 s2_12 fj (cl + kc_8) (sl + ks_9) pe_14 (by omega) (by first | exact hi4_1 | assumption) (by first | exact hi4_2 | (intro j hj; rw [hkeep j hj]; exact hi4_2 j hj)) (by first | exact inc_mono hi4_3 (by omega) | exact inc_mono hinc (by omega)) (by first | exact hi4_4 | assumption) (by omega) (by omega) (by omega) (by first | exact hQ2 | exact hQ1) (by exact BfI_n (by assumption) (by omega)) (by omega)
  refine v_lv [2, 3, 1, 0] [(0, .ref h0), (1, .ref ls), (2, .int (iI 0)), (3, .int (iI 0))] rfl ?_
  exact L4 _ 0 (iI 0) (F (c.toNat + 1)) it n fs fi 0 0 0 (by omega) (by rw [fU_same]; exact hp0) (by intro j hj; rfl) (by rw [hp2]; exact inc_none) (by rw [hp2]; exact inc_none) (by omega) (by omega) (by omega) (by rw [hp2]; exact RowQ_0) (by exact BfI_0) (Nat.lt_succ_self _)
