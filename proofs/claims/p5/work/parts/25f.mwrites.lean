/-! THE REFERENCE: what it writes -/
theorem EncR_c {f : Nat → Int32} {tu b : Int} {T : List Bool} (h : EncR f tu b T) : b = T.length := h.1
theorem EncR_eq {f : Nat → Int32} {tu b : Int} {T T2 : List Bool} (h : EncR f tu b T) (e : T = T2) : EncR f tu b T2 := e ▸ h
theorem tuL_of {vl : Int} (h : 0 ≤ vl ∧ vl ≤ 1) : ∃ t, 7 - 7 * vl = tuB t ∧ (t = true ↔ vl = 0) := by
  rcases (show vl = 0 ∨ vl = 1 by omega) with rfl | rfl
  · exact ⟨true, by decide, by decide⟩
  · exact ⟨false, by decide, by decide⟩
theorem EncR_b {f f2 : Nat → Int32} {vl vb x p : Int} {T : List Bool} {t y : Int32} (h : EncR f (7 - 7 * vl) vb T) (hl : 0 ≤ vl ∧ vl ≤ 1) (hx : 0 ≤ x ∧ x ≤ 1) (hb : 0 ≤ vb) (et : iI x <<< (iI p &&& 31) = t) (e : upd f (vb / 8).toNat y = f2) (hy : (vb % 8 = 0 ∧ y = t) ∨ (vb % 8 ≠ 0 ∧ y = f (vb / 8).toNat + t)) (hp : (vl ≠ 0 ∧ p = vb % 8) ∨ (vl = 0 ∧ p = 7 - vb % 8)) : EncR f2 (7 - 7 * vl) (vb + 1) (T ++ [decide (x = 1)]) := by
  obtain ⟨tb, e1, e2⟩ := tuL_of hl
  rw [e1] at h ⊢
  have hx1 : x = if decide (x = 1) = true then 1 else 0 := by
    rcases (show x = 0 ∨ x = 1 by omega) with rfl | rfl <;> decide
  refine EncR_1 (p := p) (y := y) h ?_ ?_ e hb
  · unfold plc tuB
    cases tb with
    | true => rw [if_neg (by decide)]; have := e2.mp rfl; omega
    | false =>
      rw [if_pos (by decide)]
      have : vl ≠ 0 := fun q => by simpa using e2.mpr q
      omega
  · rw [← hx1, et]; exact hy
theorem EncR_b0 {f f2 : Nat → Int32} {vl vb x p : Int} {T : List Bool} {t : Int32} (h : EncR f (7 - 7 * vl) vb T) (hl : 0 ≤ vl ∧ vl ≤ 1) (hx : 0 ≤ x ∧ x ≤ 1) (hb : 0 ≤ vb) (et : iI x <<< (iI p &&& 31) = t) (e : upd f (vb / 8).toNat t = f2) (h8 : vb % 8 = 0) (hp : (vl ≠ 0 ∧ p = vb % 8) ∨ (vl = 0 ∧ p = 7 - vb % 8)) : EncR f2 (7 - 7 * vl) (vb + 1) (T ++ [decide (x = 1)]) := EncR_b h hl hx hb et e (Or.inl ⟨h8, rfl⟩) hp
theorem EncR_b1 {f f2 : Nat → Int32} {vl vb x p : Int} {T : List Bool} {t : Int32} (h : EncR f (7 - 7 * vl) vb T) (hl : 0 ≤ vl ∧ vl ≤ 1) (hx : 0 ≤ x ∧ x ≤ 1) (hb : 0 ≤ vb) (et : iI x <<< (iI p &&& 31) = t) (e : upd f (vb / 8).toNat (f (vb / 8).toNat + t) = f2) (h8 : vb % 8 ≠ 0) (hp : (vl ≠ 0 ∧ p = vb % 8) ∨ (vl = 0 ∧ p = 7 - vb % 8)) : EncR f2 (7 - 7 * vl) (vb + 1) (T ++ [decide (x = 1)]) := EncR_b h hl hx hb et e (Or.inr ⟨h8, rfl⟩) hp
def tbI (n k : Nat) : Int := if n.testBit k then 1 else 0
theorem tbI_b (n k : Nat) : 0 ≤ tbI n k ∧ tbI n k ≤ 1 := by unfold tbI; split <;> omega
theorem tbI_d (n k : Nat) : decide (tbI n k = 1) = n.testBit k := by
  unfold tbI; cases n.testBit k <;> decide
theorem shr_g {x i : Int} (hx : 0 ≤ x ∧ x < 16384) (h : 0 ≤ i ∧ i ≤ 13) : iI x >>> (iI i &&& 31) = iI (x / ((2 ^ i.toNat : Nat) : Int)) := by
  rcases (show i = 0 ∨ i = 1 ∨ i = 2 ∨ i = 3 ∨ i = 4 ∨ i = 5 ∨ i = 6 ∨ i = 7 ∨ i = 8 ∨ i = 9 ∨ i = 10 ∨ i = 11 ∨ i = 12 ∨ i = 13 by omega) with rfl | rfl | rfl | rfl | rfl | rfl | rfl | rfl | rfl | rfl | rfl | rfl | rfl | rfl <;> exact iI_shr (by omega) _ _ (by decide)
theorem shb_eq {x i : Int} {t t2 : Int32} (e1 : iI x >>> (iI i &&& 31) = t) (e2 : t &&& iI 1 = t2) (hx : 0 ≤ x ∧ x < 16384) (h : 0 ≤ i ∧ i ≤ 13) : t2 = iI (tbI x.toNat i.toNat) := by
  obtain ⟨n, rfl⟩ := Int.eq_ofNat_of_zero_le hx.1
  rw [← e2, ← e1, shr_g hx h]
  have h1 : ((n : Int) / ((2 ^ i.toNat : Nat) : Int)) = ((n / 2 ^ i.toNat : Nat) : Int) := rfl
  have h2 : n / 2 ^ i.toNat ≤ n := Nat.div_le_self _ _
  unfold tbI
  rw [h1, Int.toNat_natCast, Nat.testBit_eq_decide_div_mod_eq]
  generalize n / 2 ^ i.toNat = m at h2 ⊢
  rw [iI_and (by omega) 1 (by decide +kernel)]
  congr 1
  show (m : Int) % 2 = _
  by_cases q : m % 2 = 1
  · rw [if_pos (by simpa using q)]; omega
  · rw [if_neg (by simpa using q)]; omega
theorem cb_stepI {T1 L : List Bool} {i : Int} {n : Nat} (h : T1 ++ cbits (i + 1).toNat n = L) (h0 : 0 ≤ i) : (T1 ++ [n.testBit i.toNat]) ++ cbits (i - 1 + 1).toNat n = L := by
  rw [show (i + 1).toNat = i.toNat + 1 by omega] at h
  rw [show (i - 1 + 1).toNat = i.toNat by omega, ← h, List.append_assoc]; rfl
theorem mark_cb : cbits (12 : Int).toNat (1 : Int).toNat = codeB 4097 := by decide +kernel
theorem rc_103 (bk : Int) : (4127 : Int) = rcode 103 bk := by
  unfold rcode; rw [if_neg (by decide)]; decide +kernel
theorem tb_bo : ∀ j : Fin 13, mBO.getD j.val 0 = (gT2.getD j.val 0).toInt := by decide +kernel
theorem tb_bm : ∀ j : Fin 27, mBM.getD j.val 0 = (gT1.getD (64 + j.val) 0).toInt := by decide +kernel
theorem tb_wm : ∀ j : Fin 27, mWM.getD j.val 0 = (gT0.getD (64 + j.val) 0).toInt := by decide +kernel
theorem tb_b : ∀ j : Fin 64, mB.getD j.val 0 = (gT1.getD j.val 0).toInt := by decide +kernel
theorem tb_w : ∀ j : Fin 64, mW.getD j.val 0 = (gT0.getD j.val 0).toInt := by decide +kernel
theorem rc_bo {y bk : Int} (h : 1792 ≤ y ∧ y < 2560) : mBO.getD (y / 64 - 28).toNat 0 = rcode (y / 64 + 63) bk := by
  unfold rcode; rw [if_neg (by omega)]
  have := tb_bo ⟨(y / 64 - 28).toNat, by omega⟩
  rw [show y / 64 + 63 - 91 = y / 64 - 28 by omega]; exact this
theorem rc_bm {y bk : Int} (h : 64 ≤ y ∧ y < 1792) (hb : bk = 1) : mBM.getD (y / 64 - 1).toNat 0 = rcode (y / 64 + 63) bk := by
  unfold rcode; rw [if_pos (by omega), if_pos hb]
  have := tb_bm ⟨(y / 64 - 1).toNat, by omega⟩
  rw [show (y / 64 + 63).toNat = 64 + (y / 64 - 1).toNat by omega]; exact this
theorem rc_wm {y bk : Int} (h : 64 ≤ y ∧ y < 1792) (hb : bk = 0) : mWM.getD (y / 64 - 1).toNat 0 = rcode (y / 64 + 63) bk := by
  unfold rcode; rw [if_pos (by omega), if_neg (by omega)]
  have := tb_wm ⟨(y / 64 - 1).toNat, by omega⟩
  rw [show (y / 64 + 63).toNat = 64 + (y / 64 - 1).toNat by omega]; exact this
theorem rc_b {y bk : Int} (h : 0 ≤ y ∧ y < 64) (hb : bk = 1) : mB.getD y.toNat 0 = rcode y bk := by
  unfold rcode; rw [if_pos (by omega), if_pos hb]
  exact tb_b ⟨y.toNat, by omega⟩
theorem rc_w {y bk : Int} (h : 0 ≤ y ∧ y < 64) (hb : bk = 0) : mW.getD y.toNat 0 = rcode y bk := by
  unfold rcode; rw [if_pos (by omega), if_neg (by omega)]
  exact tb_w ⟨y.toNat, by omega⟩
/-- samples of a row and its changes -/
def SmpA (w : Int) (A : Int → Int) (ln : Int) (fg : Nat → Int32) (ba : Int) : Prop := 0 ≤ ln ∧ (∀ k, ln ≤ k → A k = w) ∧ (∀ k, 0 ≤ k → k < ln → 0 ≤ A k ∧ A k < w ∧ A k < A (k + 1)) ∧ (∀ k, 0 ≤ k → k ≤ ln → ∀ x, loA A k ≤ x → x < A k → fg (ba + x).toNat = iI (k % 2))
theorem SmpA_lt {w : Int} {A : Int → Int} {ln : Int} {fg : Nat → Int32} {ba k : Int} (h : SmpA w A ln fg ba) (h0 : 0 ≤ k) (hk : A k < w) : k < ln := by
  by_cases q : k < ln
  · exact q
  · have := h.2.1 k (by omega); omega
theorem SmpA_b {w : Int} {A : Int → Int} {ln : Int} {fg : Nat → Int32} {ba k : Int} (h : SmpA w A ln fg ba) (h0 : 0 ≤ k) (hw : 0 ≤ w) : 0 ≤ A k ∧ A k ≤ w := by
  by_cases q : k < ln
  · have := h.2.2.1 k h0 q; omega
  · have := h.2.1 k (by omega); omega
theorem SmpA_up {w : Int} {A : Int → Int} {ln : Int} {fg : Nat → Int32} {ba : Int} (h : SmpA w A ln fg ba) (hw : 0 ≤ w) : ∀ (d : Nat) (k : Int), 0 ≤ k → A k ≤ A (k + d)
  | 0, k, h0 => by simp
  | d + 1, k, h0 => by
    have h1 := SmpA_up h hw d k h0
    have h2 : A (k + d) ≤ A (k + d + 1) := by
      by_cases q : k + d < ln
      · have := h.2.2.1 (k + d) (by omega) q; omega
      · have e1 := h.2.1 (k + d) (by omega); have e2 := h.2.1 (k + d + 1) (by omega); omega
    rw [show k + ((d + 1 : Nat) : Int) = k + d + 1 by omega]
    omega
theorem SmpA_next {w : Int} {A : Int → Int} {ln : Int} {fg : Nat → Int32} {ba k : Int} (h : SmpA w A ln fg ba) (hw : 0 ≤ w) (h0 : 0 ≤ k) (hk : A k < w) : MinI A (A k) (k + 1) := by
  have h1 := h.2.2.1 k h0 (SmpA_lt h h0 hk)
  refine ⟨by omega, h1.2.2, fun j h2 h3 => ?_⟩
  have := SmpA_up h hw (k - j).toNat j h2
  rwa [show j + ((k - j).toNat : Int) = k by omega] at this
theorem MinI_lo {w : Int} {A : Int → Int} {ln : Int} {fg : Nat → Int32} {ba x k : Int} (h : SmpA w A ln fg ba) (hM : MinI A x k) {i : Int} (hi : x < i) (h0 : 0 ≤ i - 1) : loA A k ≤ i - 1 := by
  unfold loA
  by_cases q : k = 0
  · rw [if_pos q]; exact h0
  · rw [if_neg q]
    have := hM.2.2 (k - 1) (by have := hM.1; omega) (by omega)
    omega
theorem MinI_le {w : Int} {A : Int → Int} {ln : Int} {fg : Nat → Int32} {ba x k : Int} (h : SmpA w A ln fg ba) (hM : MinI A x k) (hx : x < w) : k ≤ ln := by
  by_cases q : k ≤ ln
  · exact q
  · have h1 := hM.2.2 ln h.1 (by omega)
    have h2 := h.2.1 ln (Int.le_refl _)
    omega
theorem MinI_z {w : Int} {A : Int → Int} {ln : Int} {fg : Nat → Int32} {ba x k i : Int} (h : SmpA w A ln fg ba) (hM : MinI A x k) (hi : x < i ∧ i ≤ 0) (hw : 0 ≤ w) : k = 0 := by
  by_cases q : k = 0
  · exact q
  · have h1 := hM.2.2 0 (Int.le_refl _) (by have := hM.1; omega)
    have := (SmpA_b h (k := 0) (Int.le_refl _) hw).1
    omega
theorem smp_1 {w : Int} {A : Int → Int} {ln : Int} {fg : Nat → Int32} {ba x k i z : Int} (h : SmpA w A ln fg ba) (hM : MinI A x k) (hi : x < i ∧ i ≤ A k ∧ 0 ≤ i ∧ i < w) (hx : x < w) (e : fg (ba + i).toNat = iI z) (hz : -2147483648 ≤ z ∧ z < 2147483648) : (i < A k ∧ z = k % 2) ∨ (i = A k ∧ z = (k + 1) % 2) := by
  have hk := hM.1
  by_cases q : i < A k
  · left
    have hlo : loA A k ≤ i := by
      unfold loA
      by_cases q2 : k = 0
      · rw [if_pos q2]; exact hi.2.2.1
      · rw [if_neg q2]; have := hM.2.2 (k - 1) (by omega) (by omega); omega
    have := h.2.2.2 k hk (MinI_le h hM hx) i hlo q
    rw [e, iI_inj hz (by omega)] at this
    exact ⟨q, this⟩
  · right
    have hln := SmpA_lt h hk (by omega)
    have h3 := h.2.2.1 k hk hln
    have := h.2.2.2 (k + 1) (by omega) (by omega) i (by rw [loA_s hk]; omega) (by omega)
    rw [e, iI_inj hz (by omega)] at this
    exact ⟨by omega, this⟩
theorem smp_2 {w : Int} {A : Int → Int} {ln : Int} {fg : Nat → Int32} {ba x k i z : Int} (h : SmpA w A ln fg ba) (hM : MinI A x k) (hi : x < i ∧ i ≤ A k ∧ 0 < i) (hx : x < w) (e : fg (ba + i - 1).toNat = iI z) (hz : -2147483648 ≤ z ∧ z < 2147483648) : z = k % 2 := by
  have := h.2.2.2 k hM.1 (MinI_le h hM hx) (i - 1) (MinI_lo h hM hi.1 (by omega)) (by omega)
  rw [show ba + (i - 1) = ba + i - 1 by omega, e, iI_inj hz (by omega)] at this
  exact this
/-- as SmpA, or no row -/
def SmpB (w : Int) (A : Int → Int) (ln : Int) (fg : Nat → Int32) (ab : Int) : Prop := (0 ≤ ab → SmpA w A ln fg ab) ∧ (ab < 0 → ∀ k, A k = w)
theorem SmpB_b {w : Int} {A : Int → Int} {ln : Int} {fg : Nat → Int32} {ab k : Int} (h : SmpB w A ln fg ab) (h0 : 0 ≤ k) (hw : 0 ≤ w) : 0 ≤ A k ∧ A k ≤ w := by
  by_cases q : 0 ≤ ab
  · exact SmpA_b (h.1 q) h0 hw
  · rw [h.2 (by omega)]; omega
theorem SmpB_w {w : Int} {A : Int → Int} {ln : Int} {fg : Nat → Int32} {ab k : Int} (h : SmpB w A ln fg ab) (h0 : 0 ≤ k) (hk : w ≤ A k) : A k = w ∧ A (k + 1) = w := by
  by_cases q : 0 ≤ ab
  · by_cases q2 : k < ln
    · have := (h.1 q).2.2.1 k h0 q2; omega
    · exact ⟨(h.1 q).2.1 k (by omega), (h.1 q).2.1 (k + 1) (by omega)⟩
  · exact ⟨h.2 (by omega) k, h.2 (by omega) (k + 1)⟩
def MinW (w : Int) (A : Int → Int) (a0 k : Int) : Prop := a0 < w → MinI A a0 k
theorem ex_Min {A : Int → Int} {a0 : Int} : ∀ (n : Nat), a0 < A n → ∃ k, MinI A a0 k
  | 0, h => ⟨0, Int.le_refl _, h, fun j h1 h2 => by omega⟩
  | n + 1, h => by
    by_cases q : ∀ j : Int, 0 ≤ j → j < ((n + 1 : Nat) : Int) → A j ≤ a0
    · exact ⟨((n + 1 : Nat) : Int), by omega, h, q⟩
    · by_cases q2 : a0 < A n
      · exact ex_Min n q2
      · have : ∃ m : Nat, m < n ∧ a0 < A m := by
          by_cases q3 : ∃ m : Nat, m < n ∧ a0 < A m
          · exact q3
          · exfalso; apply q
            intro j h1 h2
            by_cases q4 : j = n
            · subst q4; omega
            · have h5 : ¬ (a0 < A j) := fun h6 => q3 ⟨j.toNat, by omega, by rw [show ((j.toNat : Nat) : Int) = j by omega]; exact h6⟩
              omega
        obtain ⟨m, h1, h2⟩ := this
        exact ex_Min m h2
termination_by n => n
theorem ex_MinW {w : Int} {A : Int → Int} {ln : Int} {fg : Nat → Int32} {ab : Int} (h : SmpB w A ln fg ab) (a0 : Int) : ∃ k, MinW w A a0 k := by
  by_cases q : a0 < w
  · have : ∃ k, MinI A a0 k := by
      by_cases q2 : 0 ≤ ab
      · have h1 := (h.1 q2).2.1 ln (Int.le_refl _)
        have h0 := (h.1 q2).1
        exact ex_Min ln.toNat (by rw [show ((ln.toNat : Nat) : Int) = ln by omega]; omega)
      · exact ex_Min 0 (by rw [h.2 (by omega)]; exact q)
    obtain ⟨k, hk⟩ := this
    exact ⟨k, fun _ => hk⟩
  · exact ⟨0, fun h => absurd h q⟩
theorem SmpB_of {w : Int} {A : Int → Int} {ln : Int} {fg : Nat → Int32} {ba : Int} (h : SmpA w A ln fg ba) (h0 : 0 ≤ ba) : SmpB w A ln fg ba := ⟨fun _ => h, fun q => by omega⟩
theorem SmpB_z {w : Int} {A : Int → Int} {ln : Int} {fg : Nat → Int32} {ab k z : Int} (h : SmpB w A ln fg ab) (h0 : 0 ≤ ab) (hk : 0 ≤ k) (hlt : A k < w) (e : fg (ab + A k).toNat = iI z) (hz : -2147483648 ≤ z ∧ z < 2147483648) : z = (k + 1) % 2 := by
  have hS := h.1 h0
  have hln := SmpA_lt hS hk hlt
  have h3 := hS.2.2.1 k hk hln
  have := hS.2.2.2 (k + 1) (by omega) (by omega) (A k) (by rw [loA_s hk]; omega) h3.2.2
  rw [e, iI_inj hz (by omega)] at this
  exact this
theorem nb1_1 {n bk : Int} (h : (n + 1) % 2 = bk) (hb : 0 ≤ bk ∧ bk ≤ 1) : nb1 n bk = n + 1 := by unfold nb1; rw [if_pos (by omega)]
theorem nb1_0 {n bk : Int} (h : (n + 1) % 2 ≠ bk) (hb : 0 ≤ bk ∧ bk ≤ 1) : nb1 n bk = n := by unfold nb1; rw [if_neg (by omega)]
theorem nb1_w {w : Int} {A : Int → Int} {n bk : Int} (h1 : A n = w) (h2 : A (n + 1) = w) : A (nb1 n bk) = w := by
  have := nb1_b n bk
  rcases (show nb1 n bk = n ∨ nb1 n bk = n + 1 by omega) with e | e <;> rw [e] <;> assumption
theorem one_stepR {f : Nat → Int32} {tu c z b k : Int} {T : List Bool} {A : Int → Int} (h : EncR f tu c ((T ++ oneUp A k.toNat) ++ runS z b)) (hz : z = A k - loA A k) (hb : b = k % 2) (h0 : 0 ≤ k) : EncR f tu c (T ++ oneUp A (k + 1).toNat) := by
  rw [show (k + 1).toNat = k.toNat + 1 by omega]
  show EncR f tu c (T ++ (oneUp A k.toNat ++ runS (A (k.toNat : Nat) - loA A (k.toNat : Nat)) (((k.toNat : Nat) : Int) % 2)))
  rw [show ((k.toNat : Nat) : Int) = k by omega, ← hz, ← hb, ← List.append_assoc]
  exact h
theorem lo_lt {w : Int} {A : Int → Int} {ln : Int} {fg : Nat → Int32} {ba k : Int} (h : SmpA w A ln fg ba) (h0 : 0 ≤ k) (hw : 1 ≤ w) : (k ≤ ln ∧ 0 ≤ loA A k ∧ loA A k < w ∧ loA A k ≤ A k ∧ A k ≤ w ∧ (1 ≤ k → loA A k < A k)) ∨ (ln < k ∧ loA A k = w) := by
  by_cases q : k ≤ ln
  · left
    have hb := SmpA_b h h0 (by omega)
    unfold loA
    by_cases q2 : k = 0
    · rw [if_pos q2]; exact ⟨q, by omega, by omega, by omega, by omega, fun _ => by omega⟩
    · rw [if_neg q2]
      have := h.2.2.1 (k - 1) (by omega) (by omega)
      rw [show k - 1 + 1 = k by omega] at this
      exact ⟨q, by omega, by omega, by omega, by omega, fun _ => by omega⟩
  · right
    have := h.1
    unfold loA
    rw [if_neg (by omega)]
    exact ⟨by omega, h.2.1 _ (by omega)⟩
theorem smp_r {w : Int} {A : Int → Int} {ln : Int} {fg : Nat → Int32} {ba k t z : Int} (h : SmpA w A ln fg ba) (h0 : 0 ≤ k ∧ k ≤ ln) (ht : loA A k ≤ t ∧ t ≤ A k ∧ t < w) (e : fg (ba + t).toNat = iI z) (hz : -2147483648 ≤ z ∧ z < 2147483648) : (t < A k ∧ z = k % 2) ∨ (t = A k ∧ z = (k + 1) % 2) := by
  by_cases q : t < A k
  · left
    have := h.2.2.2 k h0.1 h0.2 t ht.1 q
    rw [e, iI_inj hz (by omega)] at this
    exact ⟨q, this⟩
  · right
    have hln := SmpA_lt h h0.1 (by omega)
    have h3 := h.2.2.1 k h0.1 hln
    have := h.2.2.2 (k + 1) (by omega) (by omega) t (by rw [loA_s h0.1]; omega) (by omega)
    rw [e, iI_inj hz (by omega)] at this
    exact ⟨by omega, this⟩
theorem EncR_as {f : Nat → Int32} {tu c : Int} {T P L : List Bool} (h : EncR f tu c ((T ++ P) ++ L)) : EncR f tu c (T ++ (P ++ L)) := by rw [← List.append_assoc]; exact h
theorem cb_pass : cbits (4 : Int).toNat (1 : Int).toNat = codeB 17 := by decide +kernel
theorem cb_hor : cbits (3 : Int).toNat (1 : Int).toNat = codeB 9 := by decide +kernel
abbrev po_c_X8_bit_e (g : GG) (h0 : Nat) (xa : Nat) (xb : Nat) (xc : Nat) (xd : Nat) (xe : Nat) (xf : Nat) (xg : Nat) (xm : Nat) (xv : Nat) (xw : Nat) (xq : Nat) (xr : Nat) (xh : Nat) (xo : Nat) (xp : Nat) (vc : Int) (vk : Int) (vw : Int) (vg : Int) (vb : Int) (vi : Int) (ve : Int) (vf : Int) (vu : Int) (vl : Int) (vr : Int) (va : Int) (vt : Int) (vm : Int) (vd : Int) (vx : Int) (f : Nat → Int32) (x : Int) (T : List Bool) : Option Value → va_W → Prop := fun v8 w8 => ∃ f2 : Nat → Int32, v8 = none ∧ w8 = [(h0, ob 8 [.ref xa, .ref xb, .ref xc, .ref xd, .ref xe, .ref xf, .ref xg, .int (iI vc), .int (iI vk), .int (iI vw), .ref xm, .ref xv, .int (iI vg), .ref xw, .int (iI (vb + 1)), .int (iI vi), .ref xq, .int (iI ve), .int (iI vf), .int (iI vu), .int (iI vl), .ref xr, .ref xh, .ref xo, .ref xp, .int (iI vr), .int (iI va), .int (iI vt), .int (iI vm), .int (iI vd), .int (iI vx)]), (xw, aI g 72000 f2)] ∧ (EncR f2 (7 - 7 * vl) (vb + 1) (T ++ [decide (x = 1)]))
set_option maxHeartbeats 4000000 in
set_option maxRecDepth 100000 in
theorem c_X8_bit_e (l : Launch) (g : GG) (h0 : Nat) (xa : Nat) (xb : Nat) (xc : Nat) (xd : Nat) (xe : Nat) (xf : Nat) (xg : Nat) (xm : Nat) (xv : Nat) (xw : Nat) (xq : Nat) (xr : Nat) (xh : Nat) (xo : Nat) (xp : Nat) (vc : Int) (vk : Int) (vw : Int) (vg : Int) (vb : Int) (vi : Int) (ve : Int) (vf : Int) (vu : Int) (vl : Int) (vr : Int) (va : Int) (vt : Int) (vm : Int) (vd : Int) (vx : Int) (f : Nat → Int32) (x : Int) (T : List Bool) (hp0 : 0 ≤ vb ∧ vb < 576000) (hp1 : 0 ≤ vl ∧ vl ≤ 1) (hp2 : 0 ≤ x ∧ x ≤ 1) (hp3 : EncR f (7 - 7 * vl) vb T) : Ct l g yX8_bit (wM yX8_bit cX8_bit 4 none) (rmD 0 0 0) [.ref h0, .int (iI x)] [(h0, ob 8 [.ref xa, .ref xb, .ref xc, .ref xd, .ref xe, .ref xf, .ref xg, .int (iI vc), .int (iI vk), .int (iI vw), .ref xm, .ref xv, .int (iI vg), .ref xw, .int (iI vb), .int (iI vi), .ref xq, .int (iI ve), .int (iI vf), .int (iI vu), .int (iI vl), .ref xr, .ref xh, .ref xo, .ref xp, .int (iI vr), .int (iI va), .int (iI vt), .int (iI vm), .int (iI vd), .int (iI vx)]), (xw, aI g 72000 f)] (po_c_X8_bit_e g h0 xa xb xc xd xe xf xg xm xv xw xq xr xh xo xp vc vk vw vg vb vi ve vf vu vl vr va vt vm vd vx f x T) := by
  refine Ct_of (by decide +kernel) (Nat.le_of_ble_eq_true rfl) ?_
  intro p9 e9 s9 m9 ag9 bl9 mt9 c9 A9 fx hr hnm
  refine v_aload_n fx 0 dX8_bit_0 rfl rfl ?_
  refine v_get fx 0 14 inX8 k1010 dX8_bit_1 rfl rfl (by decide) rfl rfl rfl ?_
  refine v_bipush fx dX8_bit_4 (by decide +kernel) rfl ?_
  refine v_idiv fx (iI (vb / 8)) dX8_bit_6 (by decide) (iI_div (by omega) 8 (by decide) (by decide)) rfl ?_
  refine v_istore_n fx [(2, .int (iI (vb / 8))), (0, .ref h0), (1, .int (iI x))] dX8_bit_7 (by decide) rfl rfl ?_
  refine v_aload_n fx 1 dX8_bit_8 rfl rfl ?_
  refine v_get fx 0 20 inX8 k1016 dX8_bit_9 rfl rfl (by decide) rfl rfl rfl ?_
  refine v_if_eq fx 25 dX8_bit_12 (by decide) rfl (by omega) (fun h_1 => ?_) (fun h_1 => ?_)
  ·
    refine v_bipush fx dX8_bit_25 (by decide +kernel) rfl ?_
    refine v_aload_n fx 1 dX8_bit_27 rfl rfl ?_
    refine v_get fx 0 14 inX8 k1010 dX8_bit_28 rfl rfl (by decide) rfl rfl rfl ?_
    refine v_bipush fx dX8_bit_31 (by decide +kernel) rfl ?_
    refine v_irem fx (iI (vb % 8)) dX8_bit_33 (by decide) (iI_rem (by omega) 8 (by decide) (by decide)) rfl ?_
    refine v_isub fx (7 - (vb % 8)) dX8_bit_34 (by rfl) rfl ?_
    refine v_istore_n fx [(3, .int (iI (7 - (vb % 8)))), (2, .int (iI (vb / 8))), (0, .ref h0), (1, .int (iI x))] dX8_bit_35 (by decide) rfl rfl ?_
    refine v_aload_n fx 2 dX8_bit_36 rfl rfl ?_
    refine v_get fx 0 13 inX8 k1009 dX8_bit_37 rfl rfl (by decide) rfl rfl rfl ?_
    refine v_iload_n fx 1 dX8_bit_40 rfl rfl ?_
    refine v_aload_n fx 2 dX8_bit_41 rfl rfl ?_
    refine v_get fx 0 14 inX8 k1010 dX8_bit_42 rfl rfl (by decide) rfl rfl rfl ?_
    refine v_bipush fx dX8_bit_45 (by decide +kernel) rfl ?_
    refine v_irem fx (iI (vb % 8)) dX8_bit_47 (by decide) (iI_rem (by omega) 8 (by decide) (by decide)) rfl ?_
    refine v_if_ne fx 57 dX8_bit_48 (by decide) rfl (by omega) (fun h_2 => ?_) (fun h_2 => ?_)
    ·
      refine v_aload_n fx 2 dX8_bit_57 rfl rfl ?_
      refine v_get fx 0 13 inX8 k1009 dX8_bit_58 rfl rfl (by decide) rfl rfl rfl ?_
      refine v_iload_n fx 1 dX8_bit_61 rfl rfl ?_
      refine v_iald fx 1 dX8_bit_62 rfl (by omega) (by omega) rfl ?_
      refine v_iload_n fx 3 dX8_bit_63 rfl rfl ?_
      refine v_iload_n fx 0 dX8_bit_64 rfl rfl ?_
      obtain ⟨t_3, et_3⟩ : ∃ x9 : Int32, (iI x) <<< ((iI (7 - (vb % 8))) &&& 31) = x9 := ⟨_, rfl⟩
      refine v_ishl fx t_3 dX8_bit_65 et_3 rfl ?_
      refine v_iaddR fx ((f (vb / 8).toNat) + t_3) dX8_bit_66 rfl rfl ?_
      obtain ⟨f_4, ef_4⟩ : ∃ f9 : Nat → Int32, upd f (vb / 8).toNat ((f (vb / 8).toNat) + t_3) = f9 := ⟨_, rfl⟩
      refine v_iast fx 1 f_4 [(h0, ob 8 [.ref xa, .ref xb, .ref xc, .ref xd, .ref xe, .ref xf, .ref xg, .int (iI vc), .int (iI vk), .int (iI vw), .ref xm, .ref xv, .int (iI vg), .ref xw, .int (iI vb), .int (iI vi), .ref xq, .int (iI ve), .int (iI vf), .int (iI vu), .int (iI vl), .ref xr, .ref xh, .ref xo, .ref xp, .int (iI vr), .int (iI va), .int (iI vt), .int (iI vm), .int (iI vd), .int (iI vx)]), (xw, aI g 72000 f_4)] dX8_bit_67 rfl (by omega) (by omega) ef_4 rfl rfl ?_
      refine v_aload_n fx 2 dX8_bit_68 rfl rfl ?_
      refine v_dup fx dX8_bit_69 rfl rfl ?_
      refine v_get fx 0 14 inX8 k1010 dX8_bit_70 rfl rfl (by decide) rfl rfl rfl ?_
      refine v_iconst fx dX8_bit_73 rfl ?_
      refine v_iadd fx (vb + 1) dX8_bit_74 (by rfl) rfl ?_
      refine v_put fx 0 14 [(h0, ob 8 [.ref xa, .ref xb, .ref xc, .ref xd, .ref xe, .ref xf, .ref xg, .int (iI vc), .int (iI vk), .int (iI vw), .ref xm, .ref xv, .int (iI vg), .ref xw, .int (iI (vb + 1)), .int (iI vi), .ref xq, .int (iI ve), .int (iI vf), .int (iI vu), .int (iI vl), .ref xr, .ref xh, .ref xo, .ref xp, .int (iI vr), .int (iI va), .int (iI vt), .int (iI vm), .int (iI vd), .int (iI vx)]), (xw, aI g 72000 f_4)] inX8 tyX8_ok nmX8 k1010 dX8_bit_75 rfl rfl (by decide) rfl rfl rfl rfl (nl rfl) rfl rfl ?_
      exact v_vret fx [(h0, ob 8 [.ref xa, .ref xb, .ref xc, .ref xd, .ref xe, .ref xf, .ref xg, .int (iI vc), .int (iI vk), .int (iI vw), .ref xm, .ref xv, .int (iI vg), .ref xw, .int (iI (vb + 1)), .int (iI vi), .ref xq, .int (iI ve), .int (iI vf), .int (iI vu), .int (iI vl), .ref xr, .ref xh, .ref xo, .ref xp, .int (iI vr), .int (iI va), .int (iI vt), .int (iI vm), .int (iI vd), .int (iI vx)]), (xw, aI g 72000 f_4)] [0, 1] hr dX8_bit_78 rfl rfl (nl rfl) (nl rfl) ⟨f_4, rfl, rfl, (by first | exact EncR_b0 hp3 hp1 hp2 (by omega) (by assumption) (by assumption) (by omega) (by omega) | exact EncR_b1 hp3 hp1 hp2 (by omega) (by assumption) (by assumption) (by omega) (by omega))⟩
    ·
      refine v_iload_n fx 3 dX8_bit_51 rfl rfl ?_
      refine v_iload_n fx 0 dX8_bit_52 rfl rfl ?_
      obtain ⟨t_5, et_5⟩ : ∃ x9 : Int32, (iI x) <<< ((iI (7 - (vb % 8))) &&& 31) = x9 := ⟨_, rfl⟩
      refine v_ishl fx t_5 dX8_bit_53 et_5 rfl ?_
      refine v_goto fx 67 dX8_bit_54 (by decide) ?_
      obtain ⟨f_6, ef_6⟩ : ∃ f9 : Nat → Int32, upd f (vb / 8).toNat t_5 = f9 := ⟨_, rfl⟩
      refine v_iast fx 1 f_6 [(h0, ob 8 [.ref xa, .ref xb, .ref xc, .ref xd, .ref xe, .ref xf, .ref xg, .int (iI vc), .int (iI vk), .int (iI vw), .ref xm, .ref xv, .int (iI vg), .ref xw, .int (iI vb), .int (iI vi), .ref xq, .int (iI ve), .int (iI vf), .int (iI vu), .int (iI vl), .ref xr, .ref xh, .ref xo, .ref xp, .int (iI vr), .int (iI va), .int (iI vt), .int (iI vm), .int (iI vd), .int (iI vx)]), (xw, aI g 72000 f_6)] dX8_bit_67 rfl (by omega) (by omega) ef_6 rfl rfl ?_
      refine v_aload_n fx 2 dX8_bit_68 rfl rfl ?_
      refine v_dup fx dX8_bit_69 rfl rfl ?_
      refine v_get fx 0 14 inX8 k1010 dX8_bit_70 rfl rfl (by decide) rfl rfl rfl ?_
      refine v_iconst fx dX8_bit_73 rfl ?_
      refine v_iadd fx (vb + 1) dX8_bit_74 (by rfl) rfl ?_
      refine v_put fx 0 14 [(h0, ob 8 [.ref xa, .ref xb, .ref xc, .ref xd, .ref xe, .ref xf, .ref xg, .int (iI vc), .int (iI vk), .int (iI vw), .ref xm, .ref xv, .int (iI vg), .ref xw, .int (iI (vb + 1)), .int (iI vi), .ref xq, .int (iI ve), .int (iI vf), .int (iI vu), .int (iI vl), .ref xr, .ref xh, .ref xo, .ref xp, .int (iI vr), .int (iI va), .int (iI vt), .int (iI vm), .int (iI vd), .int (iI vx)]), (xw, aI g 72000 f_6)] inX8 tyX8_ok nmX8 k1010 dX8_bit_75 rfl rfl (by decide) rfl rfl rfl rfl (nl rfl) rfl rfl ?_
      exact v_vret fx [(h0, ob 8 [.ref xa, .ref xb, .ref xc, .ref xd, .ref xe, .ref xf, .ref xg, .int (iI vc), .int (iI vk), .int (iI vw), .ref xm, .ref xv, .int (iI vg), .ref xw, .int (iI (vb + 1)), .int (iI vi), .ref xq, .int (iI ve), .int (iI vf), .int (iI vu), .int (iI vl), .ref xr, .ref xh, .ref xo, .ref xp, .int (iI vr), .int (iI va), .int (iI vt), .int (iI vm), .int (iI vd), .int (iI vx)]), (xw, aI g 72000 f_6)] [0, 1] hr dX8_bit_78 rfl rfl (nl rfl) (nl rfl) ⟨f_6, rfl, rfl, (by first | exact EncR_b0 hp3 hp1 hp2 (by omega) (by assumption) (by assumption) (by omega) (by omega) | exact EncR_b1 hp3 hp1 hp2 (by omega) (by assumption) (by assumption) (by omega) (by omega))⟩
  ·
    refine v_aload_n fx 1 dX8_bit_15 rfl rfl ?_
    refine v_get fx 0 14 inX8 k1010 dX8_bit_16 rfl rfl (by decide) rfl rfl rfl ?_
    refine v_bipush fx dX8_bit_19 (by decide +kernel) rfl ?_
    refine v_irem fx (iI (vb % 8)) dX8_bit_21 (by decide) (iI_rem (by omega) 8 (by decide) (by decide)) rfl ?_
    refine v_goto fx 35 dX8_bit_22 (by decide) ?_
    refine v_istore_n fx [(3, .int (iI (vb % 8))), (2, .int (iI (vb / 8))), (0, .ref h0), (1, .int (iI x))] dX8_bit_35 (by decide) rfl rfl ?_
    refine v_aload_n fx 2 dX8_bit_36 rfl rfl ?_
    refine v_get fx 0 13 inX8 k1009 dX8_bit_37 rfl rfl (by decide) rfl rfl rfl ?_
    refine v_iload_n fx 1 dX8_bit_40 rfl rfl ?_
    refine v_aload_n fx 2 dX8_bit_41 rfl rfl ?_
    refine v_get fx 0 14 inX8 k1010 dX8_bit_42 rfl rfl (by decide) rfl rfl rfl ?_
    refine v_bipush fx dX8_bit_45 (by decide +kernel) rfl ?_
    refine v_irem fx (iI (vb % 8)) dX8_bit_47 (by decide) (iI_rem (by omega) 8 (by decide) (by decide)) rfl ?_
    refine v_if_ne fx 57 dX8_bit_48 (by decide) rfl (by omega) (fun h_7 => ?_) (fun h_7 => ?_)
    ·
      refine v_aload_n fx 2 dX8_bit_57 rfl rfl ?_
      refine v_get fx 0 13 inX8 k1009 dX8_bit_58 rfl rfl (by decide) rfl rfl rfl ?_
      refine v_iload_n fx 1 dX8_bit_61 rfl rfl ?_
      refine v_iald fx 1 dX8_bit_62 rfl (by omega) (by omega) rfl ?_
      refine v_iload_n fx 3 dX8_bit_63 rfl rfl ?_
      refine v_iload_n fx 0 dX8_bit_64 rfl rfl ?_
      obtain ⟨t_8, et_8⟩ : ∃ x9 : Int32, (iI x) <<< ((iI (vb % 8)) &&& 31) = x9 := ⟨_, rfl⟩
      refine v_ishl fx t_8 dX8_bit_65 et_8 rfl ?_
      refine v_iaddR fx ((f (vb / 8).toNat) + t_8) dX8_bit_66 rfl rfl ?_
      obtain ⟨f_9, ef_9⟩ : ∃ f9 : Nat → Int32, upd f (vb / 8).toNat ((f (vb / 8).toNat) + t_8) = f9 := ⟨_, rfl⟩
      refine v_iast fx 1 f_9 [(h0, ob 8 [.ref xa, .ref xb, .ref xc, .ref xd, .ref xe, .ref xf, .ref xg, .int (iI vc), .int (iI vk), .int (iI vw), .ref xm, .ref xv, .int (iI vg), .ref xw, .int (iI vb), .int (iI vi), .ref xq, .int (iI ve), .int (iI vf), .int (iI vu), .int (iI vl), .ref xr, .ref xh, .ref xo, .ref xp, .int (iI vr), .int (iI va), .int (iI vt), .int (iI vm), .int (iI vd), .int (iI vx)]), (xw, aI g 72000 f_9)] dX8_bit_67 rfl (by omega) (by omega) ef_9 rfl rfl ?_
      refine v_aload_n fx 2 dX8_bit_68 rfl rfl ?_
      refine v_dup fx dX8_bit_69 rfl rfl ?_
      refine v_get fx 0 14 inX8 k1010 dX8_bit_70 rfl rfl (by decide) rfl rfl rfl ?_
      refine v_iconst fx dX8_bit_73 rfl ?_
      refine v_iadd fx (vb + 1) dX8_bit_74 (by rfl) rfl ?_
      refine v_put fx 0 14 [(h0, ob 8 [.ref xa, .ref xb, .ref xc, .ref xd, .ref xe, .ref xf, .ref xg, .int (iI vc), .int (iI vk), .int (iI vw), .ref xm, .ref xv, .int (iI vg), .ref xw, .int (iI (vb + 1)), .int (iI vi), .ref xq, .int (iI ve), .int (iI vf), .int (iI vu), .int (iI vl), .ref xr, .ref xh, .ref xo, .ref xp, .int (iI vr), .int (iI va), .int (iI vt), .int (iI vm), .int (iI vd), .int (iI vx)]), (xw, aI g 72000 f_9)] inX8 tyX8_ok nmX8 k1010 dX8_bit_75 rfl rfl (by decide) rfl rfl rfl rfl (nl rfl) rfl rfl ?_
      exact v_vret fx [(h0, ob 8 [.ref xa, .ref xb, .ref xc, .ref xd, .ref xe, .ref xf, .ref xg, .int (iI vc), .int (iI vk), .int (iI vw), .ref xm, .ref xv, .int (iI vg), .ref xw, .int (iI (vb + 1)), .int (iI vi), .ref xq, .int (iI ve), .int (iI vf), .int (iI vu), .int (iI vl), .ref xr, .ref xh, .ref xo, .ref xp, .int (iI vr), .int (iI va), .int (iI vt), .int (iI vm), .int (iI vd), .int (iI vx)]), (xw, aI g 72000 f_9)] [0, 1] hr dX8_bit_78 rfl rfl (nl rfl) (nl rfl) ⟨f_9, rfl, rfl, (by first | exact EncR_b0 hp3 hp1 hp2 (by omega) (by assumption) (by assumption) (by omega) (by omega) | exact EncR_b1 hp3 hp1 hp2 (by omega) (by assumption) (by assumption) (by omega) (by omega))⟩
    ·
      refine v_iload_n fx 3 dX8_bit_51 rfl rfl ?_
      refine v_iload_n fx 0 dX8_bit_52 rfl rfl ?_
      obtain ⟨t_10, et_10⟩ : ∃ x9 : Int32, (iI x) <<< ((iI (vb % 8)) &&& 31) = x9 := ⟨_, rfl⟩
      refine v_ishl fx t_10 dX8_bit_53 et_10 rfl ?_
      refine v_goto fx 67 dX8_bit_54 (by decide) ?_
      obtain ⟨f_11, ef_11⟩ : ∃ f9 : Nat → Int32, upd f (vb / 8).toNat t_10 = f9 := ⟨_, rfl⟩
      refine v_iast fx 1 f_11 [(h0, ob 8 [.ref xa, .ref xb, .ref xc, .ref xd, .ref xe, .ref xf, .ref xg, .int (iI vc), .int (iI vk), .int (iI vw), .ref xm, .ref xv, .int (iI vg), .ref xw, .int (iI vb), .int (iI vi), .ref xq, .int (iI ve), .int (iI vf), .int (iI vu), .int (iI vl), .ref xr, .ref xh, .ref xo, .ref xp, .int (iI vr), .int (iI va), .int (iI vt), .int (iI vm), .int (iI vd), .int (iI vx)]), (xw, aI g 72000 f_11)] dX8_bit_67 rfl (by omega) (by omega) ef_11 rfl rfl ?_
      refine v_aload_n fx 2 dX8_bit_68 rfl rfl ?_
      refine v_dup fx dX8_bit_69 rfl rfl ?_
      refine v_get fx 0 14 inX8 k1010 dX8_bit_70 rfl rfl (by decide) rfl rfl rfl ?_
      refine v_iconst fx dX8_bit_73 rfl ?_
      refine v_iadd fx (vb + 1) dX8_bit_74 (by rfl) rfl ?_
      refine v_put fx 0 14 [(h0, ob 8 [.ref xa, .ref xb, .ref xc, .ref xd, .ref xe, .ref xf, .ref xg, .int (iI vc), .int (iI vk), .int (iI vw), .ref xm, .ref xv, .int (iI vg), .ref xw, .int (iI (vb + 1)), .int (iI vi), .ref xq, .int (iI ve), .int (iI vf), .int (iI vu), .int (iI vl), .ref xr, .ref xh, .ref xo, .ref xp, .int (iI vr), .int (iI va), .int (iI vt), .int (iI vm), .int (iI vd), .int (iI vx)]), (xw, aI g 72000 f_11)] inX8 tyX8_ok nmX8 k1010 dX8_bit_75 rfl rfl (by decide) rfl rfl rfl rfl (nl rfl) rfl rfl ?_
      exact v_vret fx [(h0, ob 8 [.ref xa, .ref xb, .ref xc, .ref xd, .ref xe, .ref xf, .ref xg, .int (iI vc), .int (iI vk), .int (iI vw), .ref xm, .ref xv, .int (iI vg), .ref xw, .int (iI (vb + 1)), .int (iI vi), .ref xq, .int (iI ve), .int (iI vf), .int (iI vu), .int (iI vl), .ref xr, .ref xh, .ref xo, .ref xp, .int (iI vr), .int (iI va), .int (iI vt), .int (iI vm), .int (iI vd), .int (iI vx)]), (xw, aI g 72000 f_11)] [0, 1] hr dX8_bit_78 rfl rfl (nl rfl) (nl rfl) ⟨f_11, rfl, rfl, (by first | exact EncR_b0 hp3 hp1 hp2 (by omega) (by assumption) (by assumption) (by omega) (by omega) | exact EncR_b1 hp3 hp1 hp2 (by omega) (by assumption) (by assumption) (by omega) (by omega))⟩
abbrev po_c_X8_number_e (g : GG) (h0 : Nat) (xa : Nat) (xb : Nat) (xc : Nat) (xd : Nat) (xe : Nat) (xf : Nat) (xg : Nat) (xm : Nat) (xv : Nat) (xw : Nat) (xq : Nat) (xr : Nat) (xh : Nat) (xo : Nat) (xp : Nat) (vc : Int) (vk : Int) (vw : Int) (vg : Int) (vb : Int) (vi : Int) (ve : Int) (vf : Int) (vu : Int) (vl : Int) (vr : Int) (va : Int) (vt : Int) (vm : Int) (vd : Int) (vx : Int) (f : Nat → Int32) (x : Int) (n : Int) (T : List Bool) : Option Value → va_W → Prop := fun v8 w8 => ∃ b2 : Int, ∃ f2 : Nat → Int32, v8 = none ∧ w8 = [(h0, ob 8 [.ref xa, .ref xb, .ref xc, .ref xd, .ref xe, .ref xf, .ref xg, .int (iI vc), .int (iI vk), .int (iI vw), .ref xm, .ref xv, .int (iI vg), .ref xw, .int (iI b2), .int (iI vi), .ref xq, .int (iI ve), .int (iI vf), .int (iI vu), .int (iI vl), .ref xr, .ref xh, .ref xo, .ref xp, .int (iI vr), .int (iI va), .int (iI vt), .int (iI vm), .int (iI vd), .int (iI vx)]), (xw, aI g 72000 f2)] ∧ (b2 = vb + n) ∧ (EncR f2 (7 - 7 * vl) b2 (T ++ cbits n.toNat x.toNat))
set_option maxHeartbeats 4000000 in
set_option maxRecDepth 100000 in
theorem c_X8_number_e (l : Launch) (g : GG) (h0 : Nat) (xa : Nat) (xb : Nat) (xc : Nat) (xd : Nat) (xe : Nat) (xf : Nat) (xg : Nat) (xm : Nat) (xv : Nat) (xw : Nat) (xq : Nat) (xr : Nat) (xh : Nat) (xo : Nat) (xp : Nat) (vc : Int) (vk : Int) (vw : Int) (vg : Int) (vb : Int) (vi : Int) (ve : Int) (vf : Int) (vu : Int) (vl : Int) (vr : Int) (va : Int) (vt : Int) (vm : Int) (vd : Int) (vx : Int) (f : Nat → Int32) (x : Int) (n : Int) (T : List Bool) (hp0 : 0 ≤ vb ∧ 0 ≤ n ∧ n ≤ 14 ∧ vb + n ≤ 576000) (hp1 : 0 ≤ vl ∧ vl ≤ 1) (hp2 : 0 ≤ x ∧ x < 16384) (hp3 : EncR f (7 - 7 * vl) vb T) : Ct l g yX8_number (wM yX8_number cX8_number 4 none) (rmD 1 0 0) [.ref h0, .int (iI x), .int (iI n)] [(h0, ob 8 [.ref xa, .ref xb, .ref xc, .ref xd, .ref xe, .ref xf, .ref xg, .int (iI vc), .int (iI vk), .int (iI vw), .ref xm, .ref xv, .int (iI vg), .ref xw, .int (iI vb), .int (iI vi), .ref xq, .int (iI ve), .int (iI vf), .int (iI vu), .int (iI vl), .ref xr, .ref xh, .ref xo, .ref xp, .int (iI vr), .int (iI va), .int (iI vt), .int (iI vm), .int (iI vd), .int (iI vx)]), (xw, aI g 72000 f)] (po_c_X8_number_e g h0 xa xb xc xd xe xf xg xm xv xw xq xr xh xo xp vc vk vw vg vb vi ve vf vu vl vr va vt vm vd vx f x n T) := by
  refine Ct_of (by decide +kernel) (Nat.le_of_ble_eq_true rfl) ?_
  intro p9 e9 s9 m9 ag9 bl9 mt9 c9 A9 fx hr hnm
  refine v_iload_n fx 2 dX8_number_0 rfl rfl ?_
  refine v_iconst fx dX8_number_1 rfl ?_
  refine v_isub fx (n - 1) dX8_number_2 (by rfl) rfl ?_
  refine v_istore_n fx [(3, .int (iI (n - 1))), (0, .ref h0), (1, .int (iI x)), (2, .int (iI n))] dX8_number_3 (by decide) rfl rfl ?_
  have L4 : ∀ (N : Nat) (i : Int) (b1 : Int) (f1 : Nat → Int32) (T1 : List Bool), (-1 ≤ i ∧ i < n) → (b1 + i + 1 = vb + n ∧ vb ≤ b1) → (EncR f1 (7 - 7 * vl) b1 T1) → (T1 ++ cbits (i + 1).toNat x.toNat = T ++ cbits n.toNat x.toNat) → ((i + 1).toNat) < N → V p9 l e9 (rmD 1 0 0) s9 m9 ag9 bl9 mt9 c9 4 g A9 (MQ bl9 (cQ g (po_c_X8_number_e g h0 xa xb xc xd xe xf xg xm xv xw xq xr xh xo xp vc vk vw vg vb vi ve vf vu vl vr va vt vm vd vx f x n T) A9) ag9 s9 0 0 A9) [(h0, ob 8 [.ref xa, .ref xb, .ref xc, .ref xd, .ref xe, .ref xf, .ref xg, .int (iI vc), .int (iI vk), .int (iI vw), .ref xm, .ref xv, .int (iI vg), .ref xw, .int (iI b1), .int (iI vi), .ref xq, .int (iI ve), .int (iI vf), .int (iI vu), .int (iI vl), .ref xr, .ref xh, .ref xo, .ref xp, .int (iI vr), .int (iI va), .int (iI vt), .int (iI vm), .int (iI vd), .int (iI vx)]), (xw, aI g 72000 f1)] 0 0 [(0, .ref h0), (1, .int (iI x)), (2, .int (iI n)), (3, .int (iI i))] 4 [] := by
    intro N
    induction N with
    | zero => intro i b1 f1 T1 hi4_0 hi4_1 hi4_2 hi4_3 hN; exact absurd hN (Nat.not_lt_zero _)
    | succ N ihL4 =>
      intro i b1 f1 T1 hi4_0 hi4_1 hi4_2 hi4_3 hN4
      refine v_iload_n fx 3 dX8_number_4 rfl rfl ?_
      refine v_if_lt fx 23 dX8_number_5 (by decide) rfl (by omega) (fun h_1 => ?_) (fun h_1 => ?_)
      ·
        exact v_vret fx [(h0, ob 8 [.ref xa, .ref xb, .ref xc, .ref xd, .ref xe, .ref xf, .ref xg, .int (iI vc), .int (iI vk), .int (iI vw), .ref xm, .ref xv, .int (iI vg), .ref xw, .int (iI b1), .int (iI vi), .ref xq, .int (iI ve), .int (iI vf), .int (iI vu), .int (iI vl), .ref xr, .ref xh, .ref xo, .ref xp, .int (iI vr), .int (iI va), .int (iI vt), .int (iI vm), .int (iI vd), .int (iI vx)]), (xw, aI g 72000 f1)] [0, 1] hr dX8_number_23 rfl rfl (nl rfl) (nl rfl) ⟨b1, f1, rfl, rfl, (by first | omega | rfl | assumption), (by exact EncR_eq hi4_2 (by rw [← hi4_3, show (i + 1).toNat = 0 by omega]; simp [cbits]))⟩
      ·
        refine v_aload_n fx 0 dX8_number_8 rfl rfl ?_
        refine v_iload_n fx 1 dX8_number_9 rfl rfl ?_
        refine v_iload_n fx 3 dX8_number_10 rfl rfl ?_
        obtain ⟨t_2, et_2⟩ : ∃ x9 : Int32, (iI x) >>> ((iI i) &&& 31) = x9 := ⟨_, rfl⟩
        refine v_ishr fx t_2 dX8_number_11 et_2 rfl ?_
        refine v_iconst fx dX8_number_12 rfl ?_
        obtain ⟨t_3, et_3⟩ : ∃ x9 : Int32, t_2 &&& (iI 1) = x9 := ⟨_, rfl⟩
        refine v_iand fx t_3 dX8_number_13 et_3 rfl ?_
        refine v_top (iI (tbI x.toNat i.toNat)) (shb_eq (by assumption) (by assumption) (by omega) (by omega)) ?_
        refine v_callV (As := [.int (iI (tbI x.toNat i.toNat))]) (rest := []) fx [0, 1] [] [(h0, ob 8 [.ref xa, .ref xb, .ref xc, .ref xd, .ref xe, .ref xf, .ref xg, .int (iI vc), .int (iI vk), .int (iI vw), .ref xm, .ref xv, .int (iI vg), .ref xw, .int (iI b1), .int (iI vi), .ref xq, .int (iI ve), .int (iI vf), .int (iI vu), .int (iI vl), .ref xr, .ref xh, .ref xo, .ref xp, .int (iI vr), .int (iI va), .int (iI vt), .int (iI vm), .int (iI vd), .int (iI vx)]), (xw, aI g 72000 f1)] [] 1 0 (c_X8_bit_e l g h0 xa xb xc xd xe xf xg xm xv xw xq xr xh xo xp vc vk vw vg b1 vi ve vf vu vl vr va vt vm vd vx f1 (tbI x.toNat i.toNat) T1 (by first | omega | decide | assumption) (by first | omega | decide | assumption) (by exact tbI_b _ _) (by exact hi4_2)) dX8_number_14 k1110 k1112 k23 k57 k1113 ykX8_bit rfl rfl rfl rfl rfl rfl rfl rfl (nl rfl) ⟨nl rfl, nl rfl⟩ ⟨(nl rfl), (nl rfl)⟩ rfl (fun v9 w9 hu => ?_)
        obtain ⟨f2_4, rfl, rfl, u_5⟩ := hu
        refine v_is (wn := [(h0, ob 8 [.ref xa, .ref xb, .ref xc, .ref xd, .ref xe, .ref xf, .ref xg, .int (iI vc), .int (iI vk), .int (iI vw), .ref xm, .ref xv, .int (iI vg), .ref xw, .int (iI (b1 + 1)), .int (iI vi), .ref xq, .int (iI ve), .int (iI vf), .int (iI vu), .int (iI vl), .ref xr, .ref xh, .ref xo, .ref xp, .int (iI vr), .int (iI va), .int (iI vt), .int (iI vm), .int (iI vd), .int (iI vx)]), (xw, aI g 72000 f2_4)]) (cn := 0) (sn := 0) (sn2 := []) rfl rfl rfl rfl ?_
        refine v_iinc fx 3 (i - 1) [(3, .int (iI (i - 1))), (0, .ref h0), (1, .int (iI x)), (2, .int (iI n))] dX8_number_17 rfl (by omega) (by decide) rfl rfl ?_
        refine v_goto fx 4 dX8_number_20 (by decide) ?_
        refine v_lv [1, 2, 3, 0] [(0, .ref h0), (1, .int (iI x)), (2, .int (iI n)), (3, .int (iI (i - 1)))] rfl ?_
        exact ihL4 (i - 1) (b1 + 1) f2_4 (T1 ++ [x.toNat.testBit i.toNat]) (by omega) (by omega) (by exact EncR_eq (by assumption) (by rw [tbI_d])) (by exact cb_stepI hi4_3 (by omega)) (by omega)
  refine v_lv [1, 2, 3, 0] [(0, .ref h0), (1, .int (iI x)), (2, .int (iI n)), (3, .int (iI (n - 1)))] rfl ?_
  exact L4 _ (n - 1) vb f T (by omega) (by omega) (by exact hp3) (by rw [show n - 1 + 1 = n by omega]) (Nat.lt_succ_self _)
abbrev po_c_X8_mark_e (g : GG) (h0 : Nat) (xa : Nat) (xb : Nat) (xc : Nat) (xd : Nat) (xe : Nat) (xf : Nat) (xg : Nat) (xm : Nat) (xv : Nat) (xw : Nat) (xq : Nat) (xr : Nat) (xh : Nat) (xo : Nat) (xp : Nat) (vc : Int) (vk : Int) (vw : Int) (vg : Int) (vb : Int) (vi : Int) (ve : Int) (vf : Int) (vu : Int) (vl : Int) (vr : Int) (va : Int) (vt : Int) (vm : Int) (vd : Int) (vx : Int) (f : Nat → Int32) (T : List Bool) : Option Value → va_W → Prop := fun v8 w8 => ∃ b2 : Int, ∃ f2 : Nat → Int32, v8 = none ∧ w8 = [(h0, ob 8 [.ref xa, .ref xb, .ref xc, .ref xd, .ref xe, .ref xf, .ref xg, .int (iI vc), .int (iI vk), .int (iI vw), .ref xm, .ref xv, .int (iI vg), .ref xw, .int (iI b2), .int (iI vi), .ref xq, .int (iI ve), .int (iI vf), .int (iI vu), .int (iI vl), .ref xr, .ref xh, .ref xo, .ref xp, .int (iI vr), .int (iI va), .int (iI vt), .int (iI vm), .int (iI vd), .int (iI vx)]), (xw, aI g 72000 f2)] ∧ (b2 = vb + 12) ∧ (EncR f2 (7 - 7 * vl) b2 (T ++ codeB 4097))
set_option maxHeartbeats 4000000 in
set_option maxRecDepth 100000 in
theorem c_X8_mark_e (l : Launch) (g : GG) (h0 : Nat) (xa : Nat) (xb : Nat) (xc : Nat) (xd : Nat) (xe : Nat) (xf : Nat) (xg : Nat) (xm : Nat) (xv : Nat) (xw : Nat) (xq : Nat) (xr : Nat) (xh : Nat) (xo : Nat) (xp : Nat) (vc : Int) (vk : Int) (vw : Int) (vg : Int) (vb : Int) (vi : Int) (ve : Int) (vf : Int) (vu : Int) (vl : Int) (vr : Int) (va : Int) (vt : Int) (vm : Int) (vd : Int) (vx : Int) (f : Nat → Int32) (T : List Bool) (hp0 : 0 ≤ vb ∧ vb + 12 ≤ 576000) (hp1 : 0 ≤ vl ∧ vl ≤ 1) (hp2 : EncR f (7 - 7 * vl) vb T) : Ct l g yX8_mark (wM yX8_mark cX8_mark 1 none) (rmD 2 0 0) [.ref h0] [(h0, ob 8 [.ref xa, .ref xb, .ref xc, .ref xd, .ref xe, .ref xf, .ref xg, .int (iI vc), .int (iI vk), .int (iI vw), .ref xm, .ref xv, .int (iI vg), .ref xw, .int (iI vb), .int (iI vi), .ref xq, .int (iI ve), .int (iI vf), .int (iI vu), .int (iI vl), .ref xr, .ref xh, .ref xo, .ref xp, .int (iI vr), .int (iI va), .int (iI vt), .int (iI vm), .int (iI vd), .int (iI vx)]), (xw, aI g 72000 f)] (po_c_X8_mark_e g h0 xa xb xc xd xe xf xg xm xv xw xq xr xh xo xp vc vk vw vg vb vi ve vf vu vl vr va vt vm vd vx f T) := by
  refine Ct_of (by decide +kernel) (Nat.le_of_ble_eq_true rfl) ?_
  intro p9 e9 s9 m9 ag9 bl9 mt9 c9 A9 fx hr hnm
  refine v_aload_n fx 0 dX8_mark_0 rfl rfl ?_
  refine v_iconst fx dX8_mark_1 rfl ?_
  refine v_bipush fx dX8_mark_2 (by decide +kernel) rfl ?_
  refine v_callV (As := [.int (iI 1), .int (iI 12)]) (rest := []) fx [0, 1] [] [(h0, ob 8 [.ref xa, .ref xb, .ref xc, .ref xd, .ref xe, .ref xf, .ref xg, .int (iI vc), .int (iI vk), .int (iI vw), .ref xm, .ref xv, .int (iI vg), .ref xw, .int (iI vb), .int (iI vi), .ref xq, .int (iI ve), .int (iI vf), .int (iI vu), .int (iI vl), .ref xr, .ref xh, .ref xo, .ref xp, .int (iI vr), .int (iI va), .int (iI vt), .int (iI vm), .int (iI vd), .int (iI vx)]), (xw, aI g 72000 f)] [] 2 0 (c_X8_number_e l g h0 xa xb xc xd xe xf xg xm xv xw xq xr xh xo xp vc vk vw vg vb vi ve vf vu vl vr va vt vm vd vx f 1 12 T (by first | omega | decide | assumption) (by first | omega | decide | assumption) (by first | omega | decide | assumption) (by exact hp2)) dX8_mark_4 k1106 k1108 k22 k57 k1109 ykX8_number rfl rfl rfl rfl rfl rfl rfl rfl (nl rfl) ⟨nl rfl, nl rfl⟩ ⟨(nl rfl), (nl rfl)⟩ rfl (fun v9 w9 hu => ?_)
  obtain ⟨b2_1, f2_2, rfl, rfl, u_3, u_4⟩ := hu
  refine v_is (wn := [(h0, ob 8 [.ref xa, .ref xb, .ref xc, .ref xd, .ref xe, .ref xf, .ref xg, .int (iI vc), .int (iI vk), .int (iI vw), .ref xm, .ref xv, .int (iI vg), .ref xw, .int (iI b2_1), .int (iI vi), .ref xq, .int (iI ve), .int (iI vf), .int (iI vu), .int (iI vl), .ref xr, .ref xh, .ref xo, .ref xp, .int (iI vr), .int (iI va), .int (iI vt), .int (iI vm), .int (iI vd), .int (iI vx)]), (xw, aI g 72000 f2_2)]) (cn := 0) (sn := 0) (sn2 := []) rfl rfl rfl rfl ?_
  have hE := EncR_eq u_4 (by rw [mark_cb])
  exact v_vret fx [(h0, ob 8 [.ref xa, .ref xb, .ref xc, .ref xd, .ref xe, .ref xf, .ref xg, .int (iI vc), .int (iI vk), .int (iI vw), .ref xm, .ref xv, .int (iI vg), .ref xw, .int (iI b2_1), .int (iI vi), .ref xq, .int (iI ve), .int (iI vf), .int (iI vu), .int (iI vl), .ref xr, .ref xh, .ref xo, .ref xp, .int (iI vr), .int (iI va), .int (iI vt), .int (iI vm), .int (iI vd), .int (iI vx)]), (xw, aI g 72000 f2_2)] [0, 1] hr dX8_mark_7 rfl rfl (nl rfl) (nl rfl) ⟨b2_1, f2_2, rfl, rfl, (by first | omega | rfl | assumption), (by exact hE)⟩
abbrev po_c_X8_write_e (g : GG) (h0 : Nat) (xa : Nat) (xb : Nat) (xc : Nat) (xd : Nat) (xe : Nat) (xf : Nat) (xg : Nat) (xm : Nat) (xv : Nat) (xw : Nat) (xq : Nat) (xr : Nat) (xh : Nat) (xo : Nat) (xp : Nat) (vc : Int) (vk : Int) (vw : Int) (vg : Int) (vb : Int) (vi : Int) (ve : Int) (vf : Int) (vu : Int) (vl : Int) (vr : Int) (va : Int) (vt : Int) (vm : Int) (vd : Int) (vx : Int) (f : Nat → Int32) (x : Int) (T : List Bool) : Option Value → va_W → Prop := fun v8 w8 => ∃ b2 : Int, ∃ f2 : Nat → Int32, v8 = none ∧ w8 = [(h0, ob 8 [.ref xa, .ref xb, .ref xc, .ref xd, .ref xe, .ref xf, .ref xg, .int (iI vc), .int (iI vk), .int (iI vw), .ref xm, .ref xv, .int (iI vg), .ref xw, .int (iI b2), .int (iI vi), .ref xq, .int (iI ve), .int (iI vf), .int (iI vu), .int (iI vl), .ref xr, .ref xh, .ref xo, .ref xp, .int (iI vr), .int (iI va), .int (iI vt), .int (iI vm), .int (iI vd), .int (iI vx)]), (xw, aI g 72000 f2)] ∧ (b2 = vb + (clen x : Int)) ∧ (EncR f2 (7 - 7 * vl) b2 (T ++ codeB x))
set_option maxHeartbeats 4000000 in
set_option maxRecDepth 100000 in
theorem c_X8_write_e (l : Launch) (g : GG) (h0 : Nat) (xa : Nat) (xb : Nat) (xc : Nat) (xd : Nat) (xe : Nat) (xf : Nat) (xg : Nat) (xm : Nat) (xv : Nat) (xw : Nat) (xq : Nat) (xr : Nat) (xh : Nat) (xo : Nat) (xp : Nat) (vc : Int) (vk : Int) (vw : Int) (vg : Int) (vb : Int) (vi : Int) (ve : Int) (vf : Int) (vu : Int) (vl : Int) (vr : Int) (va : Int) (vt : Int) (vm : Int) (vd : Int) (vx : Int) (f : Nat → Int32) (x : Int) (T : List Bool) (hp0 : 0 ≤ vb ∧ vb + 13 ≤ 576000) (hp1 : 0 ≤ vl ∧ vl ≤ 1) (hp2 : 1 ≤ x ∧ x < 16384) (hp3 : EncR f (7 - 7 * vl) vb T) : Ct l g yX8_write (wM yX8_write cX8_write 3 none) (rmD 2 0 0) [.ref h0, .int (iI x)] [(h0, ob 8 [.ref xa, .ref xb, .ref xc, .ref xd, .ref xe, .ref xf, .ref xg, .int (iI vc), .int (iI vk), .int (iI vw), .ref xm, .ref xv, .int (iI vg), .ref xw, .int (iI vb), .int (iI vi), .ref xq, .int (iI ve), .int (iI vf), .int (iI vu), .int (iI vl), .ref xr, .ref xh, .ref xo, .ref xp, .int (iI vr), .int (iI va), .int (iI vt), .int (iI vm), .int (iI vd), .int (iI vx)]), (xw, aI g 72000 f)] (po_c_X8_write_e g h0 xa xb xc xd xe xf xg xm xv xw xq xr xh xo xp vc vk vw vg vb vi ve vf vu vl vr va vt vm vd vx f x T) := by
  refine Ct_of (by decide +kernel) (Nat.le_of_ble_eq_true rfl) ?_
  intro p9 e9 s9 m9 ag9 bl9 mt9 c9 A9 fx hr hnm
  have hcl := clen13 hp2
  refine v_iconst fx dX8_write_0 rfl ?_
  refine v_istore_n fx [(2, .int (iI 0)), (0, .ref h0), (1, .int (iI x))] dX8_write_1 (by decide) rfl rfl ?_
  have L2 : ∀ (N : Nat) (n : Int), (((2 ^ n.toNat : Nat) : Int) ≤ x) → (0 ≤ n ∧ n ≤ 13) → ((14 - n).toNat) < N → V p9 l e9 (rmD 2 0 0) s9 m9 ag9 bl9 mt9 c9 3 g A9 (MQ bl9 (cQ g (po_c_X8_write_e g h0 xa xb xc xd xe xf xg xm xv xw xq xr xh xo xp vc vk vw vg vb vi ve vf vu vl vr va vt vm vd vx f x T) A9) ag9 s9 0 0 A9) [(h0, ob 8 [.ref xa, .ref xb, .ref xc, .ref xd, .ref xe, .ref xf, .ref xg, .int (iI vc), .int (iI vk), .int (iI vw), .ref xm, .ref xv, .int (iI vg), .ref xw, .int (iI vb), .int (iI vi), .ref xq, .int (iI ve), .int (iI vf), .int (iI vu), .int (iI vl), .ref xr, .ref xh, .ref xo, .ref xp, .int (iI vr), .int (iI va), .int (iI vt), .int (iI vm), .int (iI vd), .int (iI vx)]), (xw, aI g 72000 f)] 0 0 [(0, .ref h0), (1, .int (iI x)), (2, .int (iI n))] 2 [] := by
    intro N
    induction N with
    | zero => intro n hi2_0 hi2_1 hN; exact absurd hN (Nat.not_lt_zero _)
    | succ N ihL2 =>
      intro n hi2_0 hi2_1 hN2
      refine v_iload_n fx 1 dX8_write_2 rfl rfl ?_
      refine v_iload_n fx 2 dX8_write_3 rfl rfl ?_
      refine v_iconst fx dX8_write_4 rfl ?_
      refine v_iadd fx (n + 1) dX8_write_5 (by rfl) rfl ?_
      refine v_ishr fx (iI (x / ((2 ^ (n.toNat + 1) : Nat) : Int))) dX8_write_6 (shr_v (by omega) hi2_1) rfl ?_
      refine v_if_eq fx 16 dX8_write_7 (by decide) rfl (by exact shr_b (by omega)) (fun h_1 => ?_) (fun h_1 => ?_)
      ·
        have hcl2 := clen_is hi2_0 (shr_0 (by omega) h_1)
        refine v_aload_n fx 0 dX8_write_16 rfl rfl ?_
        refine v_iload_n fx 1 dX8_write_17 rfl rfl ?_
        refine v_iload_n fx 2 dX8_write_18 rfl rfl ?_
        refine v_callV (As := [.int (iI x), .int (iI n)]) (rest := []) fx [0, 1] [] [(h0, ob 8 [.ref xa, .ref xb, .ref xc, .ref xd, .ref xe, .ref xf, .ref xg, .int (iI vc), .int (iI vk), .int (iI vw), .ref xm, .ref xv, .int (iI vg), .ref xw, .int (iI vb), .int (iI vi), .ref xq, .int (iI ve), .int (iI vf), .int (iI vu), .int (iI vl), .ref xr, .ref xh, .ref xo, .ref xp, .int (iI vr), .int (iI va), .int (iI vt), .int (iI vm), .int (iI vd), .int (iI vx)]), (xw, aI g 72000 f)] [] 2 0 (c_X8_number_e l g h0 xa xb xc xd xe xf xg xm xv xw xq xr xh xo xp vc vk vw vg vb vi ve vf vu vl vr va vt vm vd vx f x n T (by first | omega | decide | assumption) (by first | omega | decide | assumption) (by first | omega | decide | assumption) (by exact hp3)) dX8_write_19 k1106 k1108 k22 k57 k1109 ykX8_number rfl rfl rfl rfl rfl rfl rfl rfl (nl rfl) ⟨nl rfl, nl rfl⟩ ⟨(nl rfl), (nl rfl)⟩ rfl (fun v9 w9 hu => ?_)
        obtain ⟨b2_2, f2_3, rfl, rfl, u_4, u_5⟩ := hu
        refine v_is (wn := [(h0, ob 8 [.ref xa, .ref xb, .ref xc, .ref xd, .ref xe, .ref xf, .ref xg, .int (iI vc), .int (iI vk), .int (iI vw), .ref xm, .ref xv, .int (iI vg), .ref xw, .int (iI b2_2), .int (iI vi), .ref xq, .int (iI ve), .int (iI vf), .int (iI vu), .int (iI vl), .ref xr, .ref xh, .ref xo, .ref xp, .int (iI vr), .int (iI va), .int (iI vt), .int (iI vm), .int (iI vd), .int (iI vx)]), (xw, aI g 72000 f2_3)]) (cn := 0) (sn := 0) (sn2 := []) rfl rfl rfl rfl ?_
        have hE := EncR_eq u_5 (show _ = T ++ codeB x by unfold codeB; rw [hcl2])
        exact v_vret fx [(h0, ob 8 [.ref xa, .ref xb, .ref xc, .ref xd, .ref xe, .ref xf, .ref xg, .int (iI vc), .int (iI vk), .int (iI vw), .ref xm, .ref xv, .int (iI vg), .ref xw, .int (iI b2_2), .int (iI vi), .ref xq, .int (iI ve), .int (iI vf), .int (iI vu), .int (iI vl), .ref xr, .ref xh, .ref xo, .ref xp, .int (iI vr), .int (iI va), .int (iI vt), .int (iI vm), .int (iI vd), .int (iI vx)]), (xw, aI g 72000 f2_3)] [0, 1] hr dX8_write_22 rfl rfl (nl rfl) (nl rfl) ⟨b2_2, f2_3, rfl, rfl, (by omega), (by exact hE)⟩
      ·
        have hsn := shr_n (by omega) h_1
        refine v_iinc fx 2 (n + 1) [(2, .int (iI (n + 1))), (0, .ref h0), (1, .int (iI x))] dX8_write_10 rfl (by omega) (by decide) rfl rfl ?_
        refine v_goto fx 2 dX8_write_13 (by decide) ?_
        refine v_lv [1, 2, 0] [(0, .ref h0), (1, .int (iI x)), (2, .int (iI (n + 1)))] rfl ?_
        exact ihL2 (n + 1) (by rw [show (n + 1).toNat = n.toNat + 1 by omega]; exact hsn) (by have := pw_le hsn (by omega); omega) (by omega)
  refine v_lv [1, 2, 0] [(0, .ref h0), (1, .int (iI x)), (2, .int (iI 0))] rfl ?_
  exact L2 _ 0 (by show (1 : Int) ≤ x; omega) (by omega) (Nat.lt_succ_self _)
abbrev po_c_X8_run_e (g : GG) (h0 : Nat) (xa : Nat) (xb : Nat) (xc : Nat) (xd : Nat) (xe : Nat) (xf : Nat) (xg : Nat) (xm : Nat) (xv : Nat) (xw : Nat) (xq : Nat) (xr : Nat) (xh : Nat) (xo : Nat) (xp : Nat) (vc : Int) (vk : Int) (vw : Int) (vg : Int) (vb : Int) (vi : Int) (ve : Int) (vf : Int) (vu : Int) (vl : Int) (vr : Int) (va : Int) (vt : Int) (vm : Int) (vd : Int) (vx : Int) (f : Nat → Int32) (x : Int) (bk : Int) (T : List Bool) : Option Value → va_W → Prop := fun v8 w8 => ∃ b2 : Int, ∃ f2 : Nat → Int32, v8 = none ∧ w8 = [(h0, ob 8 [.ref xa, .ref xb, .ref xc, .ref xd, .ref xe, .ref xf, .ref xg, .int (iI vc), .int (iI vk), .int (iI vw), .ref xm, .ref xv, .int (iI vg), .ref xw, .int (iI b2), .int (iI vi), .ref xq, .int (iI ve), .int (iI vf), .int (iI vu), .int (iI vl), .ref xr, .ref xh, .ref xo, .ref xp, .int (iI vr), .int (iI va), .int (iI vt), .int (iI vm), .int (iI vd), .int (iI vx)]), (xw, aI g 72000 f2), (xa, aI g 64 (lfT mW 64)), (xb, aI g 64 (lfT mB 64)), (xc, aI g 27 (lfT mWM 27)), (xd, aI g 27 (lfT mBM 27)), (xe, aI g 13 (lfT mBO 13))] ∧ (vb ≤ b2) ∧ ((x = 0 ∧ b2 ≤ vb + 10) ∨ (1 ≤ x ∧ b2 ≤ vb + 7 * x - 1 - bk)) ∧ (EncR f2 (7 - 7 * vl) b2 (T ++ runS x bk))
set_option maxHeartbeats 4000000 in
set_option maxRecDepth 100000 in
theorem c_X8_run_e (l : Launch) (g : GG) (h0 : Nat) (xa : Nat) (xb : Nat) (xc : Nat) (xd : Nat) (xe : Nat) (xf : Nat) (xg : Nat) (xm : Nat) (xv : Nat) (xw : Nat) (xq : Nat) (xr : Nat) (xh : Nat) (xo : Nat) (xp : Nat) (vc : Int) (vk : Int) (vw : Int) (vg : Int) (vb : Int) (vi : Int) (ve : Int) (vf : Int) (vu : Int) (vl : Int) (vr : Int) (va : Int) (vt : Int) (vm : Int) (vd : Int) (vx : Int) (f : Nat → Int32) (x : Int) (bk : Int) (T : List Bool) (hp0 : 0 ≤ vb ∧ vb + 40 ≤ 576000) (hp1 : 0 ≤ vl ∧ vl ≤ 1) (hp2 : 0 ≤ x ∧ x ≤ 3000) (hp3 : 0 ≤ bk ∧ bk ≤ 1) (hp4 : EncR f (7 - 7 * vl) vb T) : Ct l g yX8_run (wM yX8_run cX8_run 4 none) (rmD 3 0 0) [.ref h0, .int (iI x), .int (iI bk)] [(h0, ob 8 [.ref xa, .ref xb, .ref xc, .ref xd, .ref xe, .ref xf, .ref xg, .int (iI vc), .int (iI vk), .int (iI vw), .ref xm, .ref xv, .int (iI vg), .ref xw, .int (iI vb), .int (iI vi), .ref xq, .int (iI ve), .int (iI vf), .int (iI vu), .int (iI vl), .ref xr, .ref xh, .ref xo, .ref xp, .int (iI vr), .int (iI va), .int (iI vt), .int (iI vm), .int (iI vd), .int (iI vx)]), (xw, aI g 72000 f), (xa, aI g 64 (lfT mW 64)), (xb, aI g 64 (lfT mB 64)), (xc, aI g 27 (lfT mWM 27)), (xd, aI g 27 (lfT mBM 27)), (xe, aI g 13 (lfT mBO 13))] (po_c_X8_run_e g h0 xa xb xc xd xe xf xg xm xv xw xq xr xh xo xp vc vk vw vg vb vi ve vf vu vl vr va vt vm vd vx f x bk T) := by
  refine Ct_of (by decide +kernel) (Nat.le_of_ble_eq_true rfl) ?_
  intro p9 e9 s9 m9 ag9 bl9 mt9 c9 A9 fx hr hnm
  refine v_iload_n fx 1 dX8_run_0 rfl rfl ?_
  refine v_istore_n fx [(3, .int (iI x)), (0, .ref h0), (1, .int (iI x)), (2, .int (iI bk))] dX8_run_1 (by decide) rfl rfl ?_
  have L2 : ∀ (N : Nat) (y : Int) (b1 : Int) (f1 : Nat → Int32) (T1 : List Bool), ((y = x ∧ b1 = vb) ∨ (y = x - 2560 ∧ 0 ≤ y ∧ b1 ≤ vb + 13)) → (vb ≤ b1) → (EncR f1 (7 - 7 * vl) b1 T1) → (RunI x y bk T T1) → y.toNat < N → V p9 l e9 (rmD 3 0 0) s9 m9 ag9 bl9 mt9 c9 4 g A9 (MQ bl9 (cQ g (po_c_X8_run_e g h0 xa xb xc xd xe xf xg xm xv xw xq xr xh xo xp vc vk vw vg vb vi ve vf vu vl vr va vt vm vd vx f x bk T) A9) ag9 s9 0 0 A9) [(h0, ob 8 [.ref xa, .ref xb, .ref xc, .ref xd, .ref xe, .ref xf, .ref xg, .int (iI vc), .int (iI vk), .int (iI vw), .ref xm, .ref xv, .int (iI vg), .ref xw, .int (iI b1), .int (iI vi), .ref xq, .int (iI ve), .int (iI vf), .int (iI vu), .int (iI vl), .ref xr, .ref xh, .ref xo, .ref xp, .int (iI vr), .int (iI va), .int (iI vt), .int (iI vm), .int (iI vd), .int (iI vx)]), (xw, aI g 72000 f1), (xa, aI g 64 (lfT mW 64)), (xb, aI g 64 (lfT mB 64)), (xc, aI g 27 (lfT mWM 27)), (xd, aI g 27 (lfT mBM 27)), (xe, aI g 13 (lfT mBO 13))] 0 0 [(0, .ref h0), (1, .int (iI x)), (2, .int (iI bk)), (3, .int (iI y))] 2 [] := by
    intro N
    induction N with
    | zero => intro y b1 f1 T1 hi2_0 hi2_1 hi2_2 hi2_3 hN; exact absurd hN (Nat.not_lt_zero _)
    | succ N ihL2 =>
      intro y b1 f1 T1 hi2_0 hi2_1 hi2_2 hi2_3 hN2
      refine v_iload_n fx 3 dX8_run_2 rfl rfl ?_
      refine v_sipush fx dX8_run_3 (by decide +kernel) rfl ?_
      refine v_icmp_lt fx 29 dX8_run_6 (by decide) rfl (by omega) (by omega) (fun h_1 => ?_) (fun h_1 => ?_)
      ·
        refine v_iload_n fx 3 dX8_run_29 rfl rfl ?_
        refine v_sipush fx dX8_run_30 (by decide +kernel) rfl ?_
        refine v_icmp_lt fx 55 dX8_run_33 (by decide) rfl (by omega) (by omega) (fun h_2 => ?_) (fun h_2 => ?_)
        ·
          refine v_iload_n fx 3 dX8_run_55 rfl rfl ?_
          refine v_bipush fx dX8_run_56 (by decide +kernel) rfl ?_
          refine v_icmp_lt fx 94 dX8_run_58 (by decide) rfl (by omega) (by omega) (fun h_3 => ?_) (fun h_3 => ?_)
          ·
            refine v_aload_n fx 0 dX8_run_94 rfl rfl ?_
            refine v_iload_n fx 2 dX8_run_95 rfl rfl ?_
            refine v_if_eq fx 111 dX8_run_96 (by decide) rfl (by omega) (fun h_4 => ?_) (fun h_4 => ?_)
            ·
              refine v_aload_n fx 0 dX8_run_111 rfl rfl ?_
              refine v_get fx 0 0 inX8 k996 dX8_run_112 rfl rfl (by decide) rfl rfl rfl ?_
              refine v_iload_n fx 3 dX8_run_115 rfl rfl ?_
              refine v_bipush fx dX8_run_116 (by decide +kernel) rfl ?_
              refine v_irem fx (iI (y % 64)) dX8_run_118 (by decide) (iI_rem (by omega) 64 (by decide) (by decide)) rfl ?_
              refine v_iald fx 2 dX8_run_119 rfl (by omega) (by omega) rfl ?_
              refine v_top (iI (mW.getD (y % 64).toNat 0)) (lfT_all (by decide) _) ?_
              have htt := tabT_at (b := 0) tabT_w (by decide +kernel) rfl (x := y % 64) (by omega)
              have hrb := rbB_lt (x := y % 64) (b := 0) (by omega)
              have htt1 := htt.1
              have htt2 := htt.2
              have hq2 := rc_w (y := y % 64) (bk := bk) (by omega) (by omega)
              refine v_callV (As := [.int (iI (mW.getD (y % 64).toNat 0))]) (rest := []) fx [0, 1] [2, 3, 4, 5, 6] [(h0, ob 8 [.ref xa, .ref xb, .ref xc, .ref xd, .ref xe, .ref xf, .ref xg, .int (iI vc), .int (iI vk), .int (iI vw), .ref xm, .ref xv, .int (iI vg), .ref xw, .int (iI b1), .int (iI vi), .ref xq, .int (iI ve), .int (iI vf), .int (iI vu), .int (iI vl), .ref xr, .ref xh, .ref xo, .ref xp, .int (iI vr), .int (iI va), .int (iI vt), .int (iI vm), .int (iI vd), .int (iI vx)]), (xw, aI g 72000 f1)] [(xa, aI g 64 (lfT mW 64)), (xb, aI g 64 (lfT mB 64)), (xc, aI g 27 (lfT mWM 27)), (xd, aI g 27 (lfT mBM 27)), (xe, aI g 13 (lfT mBO 13))] 1 0 (c_X8_write_e l g h0 xa xb xc xd xe xf xg xm xv xw xq xr xh xo xp vc vk vw vg b1 vi ve vf vu vl vr va vt vm vd vx f1 (mW.getD (y % 64).toNat 0) T1 (by first | omega | decide | assumption) (by first | omega | decide | assumption) (by first | omega | decide | assumption) (by assumption)) dX8_run_120 k1122 k1124 k26 k57 k1125 ykX8_write rfl rfl rfl rfl rfl rfl rfl rfl (nl rfl) ⟨nl rfl, nl rfl⟩ ⟨(nl rfl), (nl rfl)⟩ rfl (fun v9 w9 hu => ?_)
              obtain ⟨b2_5, f2_6, rfl, rfl, u_7, u_8⟩ := hu
              refine v_is (wn := [(xa, aI g 64 (lfT mW 64)), (xb, aI g 64 (lfT mB 64)), (xc, aI g 27 (lfT mWM 27)), (xd, aI g 27 (lfT mBM 27)), (xe, aI g 13 (lfT mBO 13)), (h0, ob 8 [.ref xa, .ref xb, .ref xc, .ref xd, .ref xe, .ref xf, .ref xg, .int (iI vc), .int (iI vk), .int (iI vw), .ref xm, .ref xv, .int (iI vg), .ref xw, .int (iI b2_5), .int (iI vi), .ref xq, .int (iI ve), .int (iI vf), .int (iI vu), .int (iI vl), .ref xr, .ref xh, .ref xo, .ref xp, .int (iI vr), .int (iI va), .int (iI vt), .int (iI vm), .int (iI vd), .int (iI vx)]), (xw, aI g 72000 f2_6)]) (cn := 0) (sn := 0) (sn2 := []) rfl rfl rfl rfl ?_
              exact v_vret fx [(h0, ob 8 [.ref xa, .ref xb, .ref xc, .ref xd, .ref xe, .ref xf, .ref xg, .int (iI vc), .int (iI vk), .int (iI vw), .ref xm, .ref xv, .int (iI vg), .ref xw, .int (iI b2_5), .int (iI vi), .ref xq, .int (iI ve), .int (iI vf), .int (iI vu), .int (iI vl), .ref xr, .ref xh, .ref xo, .ref xp, .int (iI vr), .int (iI va), .int (iI vt), .int (iI vm), .int (iI vd), .int (iI vx)]), (xw, aI g 72000 f2_6), (xa, aI g 64 (lfT mW 64)), (xb, aI g 64 (lfT mB 64)), (xc, aI g 27 (lfT mWM 27)), (xd, aI g 27 (lfT mBM 27)), (xe, aI g 13 (lfT mBO 13))] [5, 6, 0, 1, 2, 3, 4] hr dX8_run_123 rfl rfl (nl rfl) (nl rfl) ⟨b2_5, f2_6, rfl, rfl, (by first | omega | rfl | assumption), (by first | omega | rfl | assumption), (by first | exact EncR_eq (by assumption) (RunI_e1 hi2_3 (by omega) hq1 hq2) | exact EncR_eq (by assumption) (RunI_e2 hi2_3 (by omega) hq2))⟩
            ·
              refine v_aload_n fx 0 dX8_run_99 rfl rfl ?_
              refine v_get fx 0 1 inX8 k997 dX8_run_100 rfl rfl (by decide) rfl rfl rfl ?_
              refine v_iload_n fx 3 dX8_run_103 rfl rfl ?_
              refine v_bipush fx dX8_run_104 (by decide +kernel) rfl ?_
              refine v_irem fx (iI (y % 64)) dX8_run_106 (by decide) (iI_rem (by omega) 64 (by decide) (by decide)) rfl ?_
              refine v_iald fx 3 dX8_run_107 rfl (by omega) (by omega) rfl ?_
              refine v_top (iI (mB.getD (y % 64).toNat 0)) (lfT_all (by decide) _) ?_
              have htt := tabT_at (b := 1) tabT_b (by decide +kernel) rfl (x := y % 64) (by omega)
              have hrb := rbB_lt (x := y % 64) (b := 1) (by omega)
              have htt1 := htt.1
              have htt2 := htt.2
              have hq2 := rc_b (y := y % 64) (bk := bk) (by omega) (by omega)
              refine v_goto fx 120 dX8_run_108 (by decide) ?_
              refine v_callV (As := [.int (iI (mB.getD (y % 64).toNat 0))]) (rest := []) fx [0, 1] [2, 3, 4, 5, 6] [(h0, ob 8 [.ref xa, .ref xb, .ref xc, .ref xd, .ref xe, .ref xf, .ref xg, .int (iI vc), .int (iI vk), .int (iI vw), .ref xm, .ref xv, .int (iI vg), .ref xw, .int (iI b1), .int (iI vi), .ref xq, .int (iI ve), .int (iI vf), .int (iI vu), .int (iI vl), .ref xr, .ref xh, .ref xo, .ref xp, .int (iI vr), .int (iI va), .int (iI vt), .int (iI vm), .int (iI vd), .int (iI vx)]), (xw, aI g 72000 f1)] [(xa, aI g 64 (lfT mW 64)), (xb, aI g 64 (lfT mB 64)), (xc, aI g 27 (lfT mWM 27)), (xd, aI g 27 (lfT mBM 27)), (xe, aI g 13 (lfT mBO 13))] 1 0 (c_X8_write_e l g h0 xa xb xc xd xe xf xg xm xv xw xq xr xh xo xp vc vk vw vg b1 vi ve vf vu vl vr va vt vm vd vx f1 (mB.getD (y % 64).toNat 0) T1 (by first | omega | decide | assumption) (by first | omega | decide | assumption) (by first | omega | decide | assumption) (by assumption)) dX8_run_120 k1122 k1124 k26 k57 k1125 ykX8_write rfl rfl rfl rfl rfl rfl rfl rfl (nl rfl) ⟨nl rfl, nl rfl⟩ ⟨(nl rfl), (nl rfl)⟩ rfl (fun v9 w9 hu => ?_)
              obtain ⟨b2_9, f2_10, rfl, rfl, u_11, u_12⟩ := hu
              refine v_is (wn := [(xa, aI g 64 (lfT mW 64)), (xb, aI g 64 (lfT mB 64)), (xc, aI g 27 (lfT mWM 27)), (xd, aI g 27 (lfT mBM 27)), (xe, aI g 13 (lfT mBO 13)), (h0, ob 8 [.ref xa, .ref xb, .ref xc, .ref xd, .ref xe, .ref xf, .ref xg, .int (iI vc), .int (iI vk), .int (iI vw), .ref xm, .ref xv, .int (iI vg), .ref xw, .int (iI b2_9), .int (iI vi), .ref xq, .int (iI ve), .int (iI vf), .int (iI vu), .int (iI vl), .ref xr, .ref xh, .ref xo, .ref xp, .int (iI vr), .int (iI va), .int (iI vt), .int (iI vm), .int (iI vd), .int (iI vx)]), (xw, aI g 72000 f2_10)]) (cn := 0) (sn := 0) (sn2 := []) rfl rfl rfl rfl ?_
              exact v_vret fx [(h0, ob 8 [.ref xa, .ref xb, .ref xc, .ref xd, .ref xe, .ref xf, .ref xg, .int (iI vc), .int (iI vk), .int (iI vw), .ref xm, .ref xv, .int (iI vg), .ref xw, .int (iI b2_9), .int (iI vi), .ref xq, .int (iI ve), .int (iI vf), .int (iI vu), .int (iI vl), .ref xr, .ref xh, .ref xo, .ref xp, .int (iI vr), .int (iI va), .int (iI vt), .int (iI vm), .int (iI vd), .int (iI vx)]), (xw, aI g 72000 f2_10), (xa, aI g 64 (lfT mW 64)), (xb, aI g 64 (lfT mB 64)), (xc, aI g 27 (lfT mWM 27)), (xd, aI g 27 (lfT mBM 27)), (xe, aI g 13 (lfT mBO 13))] [5, 6, 0, 1, 2, 3, 4] hr dX8_run_123 rfl rfl (nl rfl) (nl rfl) ⟨b2_9, f2_10, rfl, rfl, (by first | omega | rfl | assumption), (by first | omega | rfl | assumption), (by first | exact EncR_eq (by assumption) (RunI_e1 hi2_3 (by omega) hq1 hq2) | exact EncR_eq (by assumption) (RunI_e2 hi2_3 (by omega) hq2))⟩
          ·
            refine v_aload_n fx 0 dX8_run_61 rfl rfl ?_
            refine v_iload_n fx 2 dX8_run_62 rfl rfl ?_
            refine v_if_eq fx 80 dX8_run_63 (by decide) rfl (by omega) (fun h_13 => ?_) (fun h_13 => ?_)
            ·
              refine v_aload_n fx 0 dX8_run_80 rfl rfl ?_
              refine v_get fx 0 2 inX8 k998 dX8_run_81 rfl rfl (by decide) rfl rfl rfl ?_
              refine v_iload_n fx 3 dX8_run_84 rfl rfl ?_
              refine v_bipush fx dX8_run_85 (by decide +kernel) rfl ?_
              refine v_idiv fx (iI (y / 64)) dX8_run_87 (by decide) (iI_div (by omega) 64 (by decide) (by decide)) rfl ?_
              refine v_iconst fx dX8_run_88 rfl ?_
              refine v_isub fx ((y / 64) - 1) dX8_run_89 (by rfl) rfl ?_
              refine v_iald fx 4 dX8_run_90 rfl (by omega) (by omega) rfl ?_
              refine v_top (iI (mWM.getD (y / 64 - 1).toNat 0)) (lfT_all (by decide) _) ?_
              have htb := tabP_at (l := mWM) (by decide +kernel) (x := y / 64 - 1) (by show 0 ≤ _ ∧ _ < (27 : Int); omega)
              have hc13 := clen13 htb
              have hq1 := rc_wm (y := y) (bk := bk) (by omega) (by omega)
              refine v_callV (As := [.int (iI (mWM.getD (y / 64 - 1).toNat 0))]) (rest := []) fx [0, 1] [2, 3, 4, 5, 6] [(h0, ob 8 [.ref xa, .ref xb, .ref xc, .ref xd, .ref xe, .ref xf, .ref xg, .int (iI vc), .int (iI vk), .int (iI vw), .ref xm, .ref xv, .int (iI vg), .ref xw, .int (iI b1), .int (iI vi), .ref xq, .int (iI ve), .int (iI vf), .int (iI vu), .int (iI vl), .ref xr, .ref xh, .ref xo, .ref xp, .int (iI vr), .int (iI va), .int (iI vt), .int (iI vm), .int (iI vd), .int (iI vx)]), (xw, aI g 72000 f1)] [(xa, aI g 64 (lfT mW 64)), (xb, aI g 64 (lfT mB 64)), (xc, aI g 27 (lfT mWM 27)), (xd, aI g 27 (lfT mBM 27)), (xe, aI g 13 (lfT mBO 13))] 1 0 (c_X8_write_e l g h0 xa xb xc xd xe xf xg xm xv xw xq xr xh xo xp vc vk vw vg b1 vi ve vf vu vl vr va vt vm vd vx f1 (mWM.getD (y / 64 - 1).toNat 0) T1 (by first | omega | decide | assumption) (by first | omega | decide | assumption) (by first | omega | decide | assumption) (by assumption)) dX8_run_91 k1122 k1124 k26 k57 k1125 ykX8_write rfl rfl rfl rfl rfl rfl rfl rfl (nl rfl) ⟨nl rfl, nl rfl⟩ ⟨(nl rfl), (nl rfl)⟩ rfl (fun v9 w9 hu => ?_)
              obtain ⟨b2_14, f2_15, rfl, rfl, u_16, u_17⟩ := hu
              refine v_is (wn := [(xa, aI g 64 (lfT mW 64)), (xb, aI g 64 (lfT mB 64)), (xc, aI g 27 (lfT mWM 27)), (xd, aI g 27 (lfT mBM 27)), (xe, aI g 13 (lfT mBO 13)), (h0, ob 8 [.ref xa, .ref xb, .ref xc, .ref xd, .ref xe, .ref xf, .ref xg, .int (iI vc), .int (iI vk), .int (iI vw), .ref xm, .ref xv, .int (iI vg), .ref xw, .int (iI b2_14), .int (iI vi), .ref xq, .int (iI ve), .int (iI vf), .int (iI vu), .int (iI vl), .ref xr, .ref xh, .ref xo, .ref xp, .int (iI vr), .int (iI va), .int (iI vt), .int (iI vm), .int (iI vd), .int (iI vx)]), (xw, aI g 72000 f2_15)]) (cn := 0) (sn := 0) (sn2 := []) rfl rfl rfl rfl ?_
              refine v_aload_n fx 0 dX8_run_94 rfl rfl ?_
              refine v_iload_n fx 2 dX8_run_95 rfl rfl ?_
              refine v_if_eq fx 111 dX8_run_96 (by decide) rfl (by omega) (fun h_18 => ?_) (fun h_18 => ?_)
              ·
                refine v_aload_n fx 0 dX8_run_111 rfl rfl ?_
                refine v_get fx 5 0 inX8 k996 dX8_run_112 rfl rfl (by decide) rfl rfl rfl ?_
                refine v_iload_n fx 3 dX8_run_115 rfl rfl ?_
                refine v_bipush fx dX8_run_116 (by decide +kernel) rfl ?_
                refine v_irem fx (iI (y % 64)) dX8_run_118 (by decide) (iI_rem (by omega) 64 (by decide) (by decide)) rfl ?_
                refine v_iald fx 0 dX8_run_119 rfl (by omega) (by omega) rfl ?_
                refine v_top (iI (mW.getD (y % 64).toNat 0)) (lfT_all (by decide) _) ?_
                have htt := tabT_at (b := 0) tabT_w (by decide +kernel) rfl (x := y % 64) (by omega)
                have hrb := rbB_lt (x := y % 64) (b := 0) (by omega)
                have htt1 := htt.1
                have htt2 := htt.2
                have hq2 := rc_w (y := y % 64) (bk := bk) (by omega) (by omega)
                refine v_callV (As := [.int (iI (mW.getD (y % 64).toNat 0))]) (rest := []) fx [5, 6] [0, 1, 2, 3, 4] [(h0, ob 8 [.ref xa, .ref xb, .ref xc, .ref xd, .ref xe, .ref xf, .ref xg, .int (iI vc), .int (iI vk), .int (iI vw), .ref xm, .ref xv, .int (iI vg), .ref xw, .int (iI b2_14), .int (iI vi), .ref xq, .int (iI ve), .int (iI vf), .int (iI vu), .int (iI vl), .ref xr, .ref xh, .ref xo, .ref xp, .int (iI vr), .int (iI va), .int (iI vt), .int (iI vm), .int (iI vd), .int (iI vx)]), (xw, aI g 72000 f2_15)] [(xa, aI g 64 (lfT mW 64)), (xb, aI g 64 (lfT mB 64)), (xc, aI g 27 (lfT mWM 27)), (xd, aI g 27 (lfT mBM 27)), (xe, aI g 13 (lfT mBO 13))] 1 0 (c_X8_write_e l g h0 xa xb xc xd xe xf xg xm xv xw xq xr xh xo xp vc vk vw vg b2_14 vi ve vf vu vl vr va vt vm vd vx f2_15 (mW.getD (y % 64).toNat 0) ((T1) ++ codeB (mWM.getD (y / 64 - 1).toNat 0)) (by first | omega | decide | assumption) (by first | omega | decide | assumption) (by first | omega | decide | assumption) (by assumption)) dX8_run_120 k1122 k1124 k26 k57 k1125 ykX8_write rfl rfl rfl rfl rfl rfl rfl rfl (nl rfl) ⟨nl rfl, nl rfl⟩ ⟨(nl rfl), (nl rfl)⟩ rfl (fun v9 w9 hu => ?_)
                obtain ⟨b2_19, f2_20, rfl, rfl, u_21, u_22⟩ := hu
                refine v_is (wn := [(xa, aI g 64 (lfT mW 64)), (xb, aI g 64 (lfT mB 64)), (xc, aI g 27 (lfT mWM 27)), (xd, aI g 27 (lfT mBM 27)), (xe, aI g 13 (lfT mBO 13)), (h0, ob 8 [.ref xa, .ref xb, .ref xc, .ref xd, .ref xe, .ref xf, .ref xg, .int (iI vc), .int (iI vk), .int (iI vw), .ref xm, .ref xv, .int (iI vg), .ref xw, .int (iI b2_19), .int (iI vi), .ref xq, .int (iI ve), .int (iI vf), .int (iI vu), .int (iI vl), .ref xr, .ref xh, .ref xo, .ref xp, .int (iI vr), .int (iI va), .int (iI vt), .int (iI vm), .int (iI vd), .int (iI vx)]), (xw, aI g 72000 f2_20)]) (cn := 0) (sn := 0) (sn2 := []) rfl rfl rfl rfl ?_
                exact v_vret fx [(h0, ob 8 [.ref xa, .ref xb, .ref xc, .ref xd, .ref xe, .ref xf, .ref xg, .int (iI vc), .int (iI vk), .int (iI vw), .ref xm, .ref xv, .int (iI vg), .ref xw, .int (iI b2_19), .int (iI vi), .ref xq, .int (iI ve), .int (iI vf), .int (iI vu), .int (iI vl), .ref xr, .ref xh, .ref xo, .ref xp, .int (iI vr), .int (iI va), .int (iI vt), .int (iI vm), .int (iI vd), .int (iI vx)]), (xw, aI g 72000 f2_20), (xa, aI g 64 (lfT mW 64)), (xb, aI g 64 (lfT mB 64)), (xc, aI g 27 (lfT mWM 27)), (xd, aI g 27 (lfT mBM 27)), (xe, aI g 13 (lfT mBO 13))] [5, 6, 0, 1, 2, 3, 4] hr dX8_run_123 rfl rfl (nl rfl) (nl rfl) ⟨b2_19, f2_20, rfl, rfl, (by first | omega | rfl | assumption), (by first | omega | rfl | assumption), (by first | exact EncR_eq (by assumption) (RunI_e1 hi2_3 (by omega) hq1 hq2) | exact EncR_eq (by assumption) (RunI_e2 hi2_3 (by omega) hq2))⟩
              ·
                refine v_aload_n fx 0 dX8_run_99 rfl rfl ?_
                refine v_get fx 5 1 inX8 k997 dX8_run_100 rfl rfl (by decide) rfl rfl rfl ?_
                refine v_iload_n fx 3 dX8_run_103 rfl rfl ?_
                refine v_bipush fx dX8_run_104 (by decide +kernel) rfl ?_
                refine v_irem fx (iI (y % 64)) dX8_run_106 (by decide) (iI_rem (by omega) 64 (by decide) (by decide)) rfl ?_
                refine v_iald fx 1 dX8_run_107 rfl (by omega) (by omega) rfl ?_
                refine v_top (iI (mB.getD (y % 64).toNat 0)) (lfT_all (by decide) _) ?_
                have htt := tabT_at (b := 1) tabT_b (by decide +kernel) rfl (x := y % 64) (by omega)
                have hrb := rbB_lt (x := y % 64) (b := 1) (by omega)
                have htt1 := htt.1
                have htt2 := htt.2
                have hq2 := rc_b (y := y % 64) (bk := bk) (by omega) (by omega)
                refine v_goto fx 120 dX8_run_108 (by decide) ?_
                refine v_callV (As := [.int (iI (mB.getD (y % 64).toNat 0))]) (rest := []) fx [5, 6] [0, 1, 2, 3, 4] [(h0, ob 8 [.ref xa, .ref xb, .ref xc, .ref xd, .ref xe, .ref xf, .ref xg, .int (iI vc), .int (iI vk), .int (iI vw), .ref xm, .ref xv, .int (iI vg), .ref xw, .int (iI b2_14), .int (iI vi), .ref xq, .int (iI ve), .int (iI vf), .int (iI vu), .int (iI vl), .ref xr, .ref xh, .ref xo, .ref xp, .int (iI vr), .int (iI va), .int (iI vt), .int (iI vm), .int (iI vd), .int (iI vx)]), (xw, aI g 72000 f2_15)] [(xa, aI g 64 (lfT mW 64)), (xb, aI g 64 (lfT mB 64)), (xc, aI g 27 (lfT mWM 27)), (xd, aI g 27 (lfT mBM 27)), (xe, aI g 13 (lfT mBO 13))] 1 0 (c_X8_write_e l g h0 xa xb xc xd xe xf xg xm xv xw xq xr xh xo xp vc vk vw vg b2_14 vi ve vf vu vl vr va vt vm vd vx f2_15 (mB.getD (y % 64).toNat 0) ((T1) ++ codeB (mWM.getD (y / 64 - 1).toNat 0)) (by first | omega | decide | assumption) (by first | omega | decide | assumption) (by first | omega | decide | assumption) (by assumption)) dX8_run_120 k1122 k1124 k26 k57 k1125 ykX8_write rfl rfl rfl rfl rfl rfl rfl rfl (nl rfl) ⟨nl rfl, nl rfl⟩ ⟨(nl rfl), (nl rfl)⟩ rfl (fun v9 w9 hu => ?_)
                obtain ⟨b2_23, f2_24, rfl, rfl, u_25, u_26⟩ := hu
                refine v_is (wn := [(xa, aI g 64 (lfT mW 64)), (xb, aI g 64 (lfT mB 64)), (xc, aI g 27 (lfT mWM 27)), (xd, aI g 27 (lfT mBM 27)), (xe, aI g 13 (lfT mBO 13)), (h0, ob 8 [.ref xa, .ref xb, .ref xc, .ref xd, .ref xe, .ref xf, .ref xg, .int (iI vc), .int (iI vk), .int (iI vw), .ref xm, .ref xv, .int (iI vg), .ref xw, .int (iI b2_23), .int (iI vi), .ref xq, .int (iI ve), .int (iI vf), .int (iI vu), .int (iI vl), .ref xr, .ref xh, .ref xo, .ref xp, .int (iI vr), .int (iI va), .int (iI vt), .int (iI vm), .int (iI vd), .int (iI vx)]), (xw, aI g 72000 f2_24)]) (cn := 0) (sn := 0) (sn2 := []) rfl rfl rfl rfl ?_
                exact v_vret fx [(h0, ob 8 [.ref xa, .ref xb, .ref xc, .ref xd, .ref xe, .ref xf, .ref xg, .int (iI vc), .int (iI vk), .int (iI vw), .ref xm, .ref xv, .int (iI vg), .ref xw, .int (iI b2_23), .int (iI vi), .ref xq, .int (iI ve), .int (iI vf), .int (iI vu), .int (iI vl), .ref xr, .ref xh, .ref xo, .ref xp, .int (iI vr), .int (iI va), .int (iI vt), .int (iI vm), .int (iI vd), .int (iI vx)]), (xw, aI g 72000 f2_24), (xa, aI g 64 (lfT mW 64)), (xb, aI g 64 (lfT mB 64)), (xc, aI g 27 (lfT mWM 27)), (xd, aI g 27 (lfT mBM 27)), (xe, aI g 13 (lfT mBO 13))] [5, 6, 0, 1, 2, 3, 4] hr dX8_run_123 rfl rfl (nl rfl) (nl rfl) ⟨b2_23, f2_24, rfl, rfl, (by first | omega | rfl | assumption), (by first | omega | rfl | assumption), (by first | exact EncR_eq (by assumption) (RunI_e1 hi2_3 (by omega) hq1 hq2) | exact EncR_eq (by assumption) (RunI_e2 hi2_3 (by omega) hq2))⟩
            ·
              refine v_aload_n fx 0 dX8_run_66 rfl rfl ?_
              refine v_get fx 0 3 inX8 k999 dX8_run_67 rfl rfl (by decide) rfl rfl rfl ?_
              refine v_iload_n fx 3 dX8_run_70 rfl rfl ?_
              refine v_bipush fx dX8_run_71 (by decide +kernel) rfl ?_
              refine v_idiv fx (iI (y / 64)) dX8_run_73 (by decide) (iI_div (by omega) 64 (by decide) (by decide)) rfl ?_
              refine v_iconst fx dX8_run_74 rfl ?_
              refine v_isub fx ((y / 64) - 1) dX8_run_75 (by rfl) rfl ?_
              refine v_iald fx 5 dX8_run_76 rfl (by omega) (by omega) rfl ?_
              refine v_top (iI (mBM.getD (y / 64 - 1).toNat 0)) (lfT_all (by decide) _) ?_
              have htb := tabP_at (l := mBM) (by decide +kernel) (x := y / 64 - 1) (by show 0 ≤ _ ∧ _ < (27 : Int); omega)
              have hc13 := clen13 htb
              have hq1 := rc_bm (y := y) (bk := bk) (by omega) (by omega)
              refine v_goto fx 91 dX8_run_77 (by decide) ?_
              refine v_callV (As := [.int (iI (mBM.getD (y / 64 - 1).toNat 0))]) (rest := []) fx [0, 1] [2, 3, 4, 5, 6] [(h0, ob 8 [.ref xa, .ref xb, .ref xc, .ref xd, .ref xe, .ref xf, .ref xg, .int (iI vc), .int (iI vk), .int (iI vw), .ref xm, .ref xv, .int (iI vg), .ref xw, .int (iI b1), .int (iI vi), .ref xq, .int (iI ve), .int (iI vf), .int (iI vu), .int (iI vl), .ref xr, .ref xh, .ref xo, .ref xp, .int (iI vr), .int (iI va), .int (iI vt), .int (iI vm), .int (iI vd), .int (iI vx)]), (xw, aI g 72000 f1)] [(xa, aI g 64 (lfT mW 64)), (xb, aI g 64 (lfT mB 64)), (xc, aI g 27 (lfT mWM 27)), (xd, aI g 27 (lfT mBM 27)), (xe, aI g 13 (lfT mBO 13))] 1 0 (c_X8_write_e l g h0 xa xb xc xd xe xf xg xm xv xw xq xr xh xo xp vc vk vw vg b1 vi ve vf vu vl vr va vt vm vd vx f1 (mBM.getD (y / 64 - 1).toNat 0) T1 (by first | omega | decide | assumption) (by first | omega | decide | assumption) (by first | omega | decide | assumption) (by assumption)) dX8_run_91 k1122 k1124 k26 k57 k1125 ykX8_write rfl rfl rfl rfl rfl rfl rfl rfl (nl rfl) ⟨nl rfl, nl rfl⟩ ⟨(nl rfl), (nl rfl)⟩ rfl (fun v9 w9 hu => ?_)
              obtain ⟨b2_27, f2_28, rfl, rfl, u_29, u_30⟩ := hu
              refine v_is (wn := [(xa, aI g 64 (lfT mW 64)), (xb, aI g 64 (lfT mB 64)), (xc, aI g 27 (lfT mWM 27)), (xd, aI g 27 (lfT mBM 27)), (xe, aI g 13 (lfT mBO 13)), (h0, ob 8 [.ref xa, .ref xb, .ref xc, .ref xd, .ref xe, .ref xf, .ref xg, .int (iI vc), .int (iI vk), .int (iI vw), .ref xm, .ref xv, .int (iI vg), .ref xw, .int (iI b2_27), .int (iI vi), .ref xq, .int (iI ve), .int (iI vf), .int (iI vu), .int (iI vl), .ref xr, .ref xh, .ref xo, .ref xp, .int (iI vr), .int (iI va), .int (iI vt), .int (iI vm), .int (iI vd), .int (iI vx)]), (xw, aI g 72000 f2_28)]) (cn := 0) (sn := 0) (sn2 := []) rfl rfl rfl rfl ?_
              refine v_aload_n fx 0 dX8_run_94 rfl rfl ?_
              refine v_iload_n fx 2 dX8_run_95 rfl rfl ?_
              refine v_if_eq fx 111 dX8_run_96 (by decide) rfl (by omega) (fun h_31 => ?_) (fun h_31 => ?_)
              ·
                refine v_aload_n fx 0 dX8_run_111 rfl rfl ?_
                refine v_get fx 5 0 inX8 k996 dX8_run_112 rfl rfl (by decide) rfl rfl rfl ?_
                refine v_iload_n fx 3 dX8_run_115 rfl rfl ?_
                refine v_bipush fx dX8_run_116 (by decide +kernel) rfl ?_
                refine v_irem fx (iI (y % 64)) dX8_run_118 (by decide) (iI_rem (by omega) 64 (by decide) (by decide)) rfl ?_
                refine v_iald fx 0 dX8_run_119 rfl (by omega) (by omega) rfl ?_
                refine v_top (iI (mW.getD (y % 64).toNat 0)) (lfT_all (by decide) _) ?_
                have htt := tabT_at (b := 0) tabT_w (by decide +kernel) rfl (x := y % 64) (by omega)
                have hrb := rbB_lt (x := y % 64) (b := 0) (by omega)
                have htt1 := htt.1
                have htt2 := htt.2
                have hq2 := rc_w (y := y % 64) (bk := bk) (by omega) (by omega)
                refine v_callV (As := [.int (iI (mW.getD (y % 64).toNat 0))]) (rest := []) fx [5, 6] [0, 1, 2, 3, 4] [(h0, ob 8 [.ref xa, .ref xb, .ref xc, .ref xd, .ref xe, .ref xf, .ref xg, .int (iI vc), .int (iI vk), .int (iI vw), .ref xm, .ref xv, .int (iI vg), .ref xw, .int (iI b2_27), .int (iI vi), .ref xq, .int (iI ve), .int (iI vf), .int (iI vu), .int (iI vl), .ref xr, .ref xh, .ref xo, .ref xp, .int (iI vr), .int (iI va), .int (iI vt), .int (iI vm), .int (iI vd), .int (iI vx)]), (xw, aI g 72000 f2_28)] [(xa, aI g 64 (lfT mW 64)), (xb, aI g 64 (lfT mB 64)), (xc, aI g 27 (lfT mWM 27)), (xd, aI g 27 (lfT mBM 27)), (xe, aI g 13 (lfT mBO 13))] 1 0 (c_X8_write_e l g h0 xa xb xc xd xe xf xg xm xv xw xq xr xh xo xp vc vk vw vg b2_27 vi ve vf vu vl vr va vt vm vd vx f2_28 (mW.getD (y % 64).toNat 0) ((T1) ++ codeB (mBM.getD (y / 64 - 1).toNat 0)) (by first | omega | decide | assumption) (by first | omega | decide | assumption) (by first | omega | decide | assumption) (by assumption)) dX8_run_120 k1122 k1124 k26 k57 k1125 ykX8_write rfl rfl rfl rfl rfl rfl rfl rfl (nl rfl) ⟨nl rfl, nl rfl⟩ ⟨(nl rfl), (nl rfl)⟩ rfl (fun v9 w9 hu => ?_)
                obtain ⟨b2_32, f2_33, rfl, rfl, u_34, u_35⟩ := hu
                refine v_is (wn := [(xa, aI g 64 (lfT mW 64)), (xb, aI g 64 (lfT mB 64)), (xc, aI g 27 (lfT mWM 27)), (xd, aI g 27 (lfT mBM 27)), (xe, aI g 13 (lfT mBO 13)), (h0, ob 8 [.ref xa, .ref xb, .ref xc, .ref xd, .ref xe, .ref xf, .ref xg, .int (iI vc), .int (iI vk), .int (iI vw), .ref xm, .ref xv, .int (iI vg), .ref xw, .int (iI b2_32), .int (iI vi), .ref xq, .int (iI ve), .int (iI vf), .int (iI vu), .int (iI vl), .ref xr, .ref xh, .ref xo, .ref xp, .int (iI vr), .int (iI va), .int (iI vt), .int (iI vm), .int (iI vd), .int (iI vx)]), (xw, aI g 72000 f2_33)]) (cn := 0) (sn := 0) (sn2 := []) rfl rfl rfl rfl ?_
                exact v_vret fx [(h0, ob 8 [.ref xa, .ref xb, .ref xc, .ref xd, .ref xe, .ref xf, .ref xg, .int (iI vc), .int (iI vk), .int (iI vw), .ref xm, .ref xv, .int (iI vg), .ref xw, .int (iI b2_32), .int (iI vi), .ref xq, .int (iI ve), .int (iI vf), .int (iI vu), .int (iI vl), .ref xr, .ref xh, .ref xo, .ref xp, .int (iI vr), .int (iI va), .int (iI vt), .int (iI vm), .int (iI vd), .int (iI vx)]), (xw, aI g 72000 f2_33), (xa, aI g 64 (lfT mW 64)), (xb, aI g 64 (lfT mB 64)), (xc, aI g 27 (lfT mWM 27)), (xd, aI g 27 (lfT mBM 27)), (xe, aI g 13 (lfT mBO 13))] [5, 6, 0, 1, 2, 3, 4] hr dX8_run_123 rfl rfl (nl rfl) (nl rfl) ⟨b2_32, f2_33, rfl, rfl, (by first | omega | rfl | assumption), (by first | omega | rfl | assumption), (by first | exact EncR_eq (by assumption) (RunI_e1 hi2_3 (by omega) hq1 hq2) | exact EncR_eq (by assumption) (RunI_e2 hi2_3 (by omega) hq2))⟩
              ·
                refine v_aload_n fx 0 dX8_run_99 rfl rfl ?_
                refine v_get fx 5 1 inX8 k997 dX8_run_100 rfl rfl (by decide) rfl rfl rfl ?_
                refine v_iload_n fx 3 dX8_run_103 rfl rfl ?_
                refine v_bipush fx dX8_run_104 (by decide +kernel) rfl ?_
                refine v_irem fx (iI (y % 64)) dX8_run_106 (by decide) (iI_rem (by omega) 64 (by decide) (by decide)) rfl ?_
                refine v_iald fx 1 dX8_run_107 rfl (by omega) (by omega) rfl ?_
                refine v_top (iI (mB.getD (y % 64).toNat 0)) (lfT_all (by decide) _) ?_
                have htt := tabT_at (b := 1) tabT_b (by decide +kernel) rfl (x := y % 64) (by omega)
                have hrb := rbB_lt (x := y % 64) (b := 1) (by omega)
                have htt1 := htt.1
                have htt2 := htt.2
                have hq2 := rc_b (y := y % 64) (bk := bk) (by omega) (by omega)
                refine v_goto fx 120 dX8_run_108 (by decide) ?_
                refine v_callV (As := [.int (iI (mB.getD (y % 64).toNat 0))]) (rest := []) fx [5, 6] [0, 1, 2, 3, 4] [(h0, ob 8 [.ref xa, .ref xb, .ref xc, .ref xd, .ref xe, .ref xf, .ref xg, .int (iI vc), .int (iI vk), .int (iI vw), .ref xm, .ref xv, .int (iI vg), .ref xw, .int (iI b2_27), .int (iI vi), .ref xq, .int (iI ve), .int (iI vf), .int (iI vu), .int (iI vl), .ref xr, .ref xh, .ref xo, .ref xp, .int (iI vr), .int (iI va), .int (iI vt), .int (iI vm), .int (iI vd), .int (iI vx)]), (xw, aI g 72000 f2_28)] [(xa, aI g 64 (lfT mW 64)), (xb, aI g 64 (lfT mB 64)), (xc, aI g 27 (lfT mWM 27)), (xd, aI g 27 (lfT mBM 27)), (xe, aI g 13 (lfT mBO 13))] 1 0 (c_X8_write_e l g h0 xa xb xc xd xe xf xg xm xv xw xq xr xh xo xp vc vk vw vg b2_27 vi ve vf vu vl vr va vt vm vd vx f2_28 (mB.getD (y % 64).toNat 0) ((T1) ++ codeB (mBM.getD (y / 64 - 1).toNat 0)) (by first | omega | decide | assumption) (by first | omega | decide | assumption) (by first | omega | decide | assumption) (by assumption)) dX8_run_120 k1122 k1124 k26 k57 k1125 ykX8_write rfl rfl rfl rfl rfl rfl rfl rfl (nl rfl) ⟨nl rfl, nl rfl⟩ ⟨(nl rfl), (nl rfl)⟩ rfl (fun v9 w9 hu => ?_)
                obtain ⟨b2_36, f2_37, rfl, rfl, u_38, u_39⟩ := hu
                refine v_is (wn := [(xa, aI g 64 (lfT mW 64)), (xb, aI g 64 (lfT mB 64)), (xc, aI g 27 (lfT mWM 27)), (xd, aI g 27 (lfT mBM 27)), (xe, aI g 13 (lfT mBO 13)), (h0, ob 8 [.ref xa, .ref xb, .ref xc, .ref xd, .ref xe, .ref xf, .ref xg, .int (iI vc), .int (iI vk), .int (iI vw), .ref xm, .ref xv, .int (iI vg), .ref xw, .int (iI b2_36), .int (iI vi), .ref xq, .int (iI ve), .int (iI vf), .int (iI vu), .int (iI vl), .ref xr, .ref xh, .ref xo, .ref xp, .int (iI vr), .int (iI va), .int (iI vt), .int (iI vm), .int (iI vd), .int (iI vx)]), (xw, aI g 72000 f2_37)]) (cn := 0) (sn := 0) (sn2 := []) rfl rfl rfl rfl ?_
                exact v_vret fx [(h0, ob 8 [.ref xa, .ref xb, .ref xc, .ref xd, .ref xe, .ref xf, .ref xg, .int (iI vc), .int (iI vk), .int (iI vw), .ref xm, .ref xv, .int (iI vg), .ref xw, .int (iI b2_36), .int (iI vi), .ref xq, .int (iI ve), .int (iI vf), .int (iI vu), .int (iI vl), .ref xr, .ref xh, .ref xo, .ref xp, .int (iI vr), .int (iI va), .int (iI vt), .int (iI vm), .int (iI vd), .int (iI vx)]), (xw, aI g 72000 f2_37), (xa, aI g 64 (lfT mW 64)), (xb, aI g 64 (lfT mB 64)), (xc, aI g 27 (lfT mWM 27)), (xd, aI g 27 (lfT mBM 27)), (xe, aI g 13 (lfT mBO 13))] [5, 6, 0, 1, 2, 3, 4] hr dX8_run_123 rfl rfl (nl rfl) (nl rfl) ⟨b2_36, f2_37, rfl, rfl, (by first | omega | rfl | assumption), (by first | omega | rfl | assumption), (by first | exact EncR_eq (by assumption) (RunI_e1 hi2_3 (by omega) hq1 hq2) | exact EncR_eq (by assumption) (RunI_e2 hi2_3 (by omega) hq2))⟩
        ·
          refine v_aload_n fx 0 dX8_run_36 rfl rfl ?_
          refine v_aload_n fx 0 dX8_run_37 rfl rfl ?_
          refine v_get fx 0 4 inX8 k1000 dX8_run_38 rfl rfl (by decide) rfl rfl rfl ?_
          refine v_iload_n fx 3 dX8_run_41 rfl rfl ?_
          refine v_bipush fx dX8_run_42 (by decide +kernel) rfl ?_
          refine v_idiv fx (iI (y / 64)) dX8_run_44 (by decide) (iI_div (by omega) 64 (by decide) (by decide)) rfl ?_
          refine v_bipush fx dX8_run_45 (by decide +kernel) rfl ?_
          refine v_isub fx ((y / 64) - 28) dX8_run_47 (by rfl) rfl ?_
          refine v_iald fx 6 dX8_run_48 rfl (by omega) (by omega) rfl ?_
          refine v_top (iI (mBO.getD (y / 64 - 28).toNat 0)) (lfT_all (by decide) _) ?_
          have htb := tabP_at (l := mBO) (by decide +kernel) (x := y / 64 - 28) (by show 0 ≤ _ ∧ _ < (13 : Int); omega)
          have hc13 := clen13 htb
          have hq1 := rc_bo (y := y) (bk := bk) (by omega)
          refine v_callV (As := [.int (iI (mBO.getD (y / 64 - 28).toNat 0))]) (rest := []) fx [0, 1] [2, 3, 4, 5, 6] [(h0, ob 8 [.ref xa, .ref xb, .ref xc, .ref xd, .ref xe, .ref xf, .ref xg, .int (iI vc), .int (iI vk), .int (iI vw), .ref xm, .ref xv, .int (iI vg), .ref xw, .int (iI b1), .int (iI vi), .ref xq, .int (iI ve), .int (iI vf), .int (iI vu), .int (iI vl), .ref xr, .ref xh, .ref xo, .ref xp, .int (iI vr), .int (iI va), .int (iI vt), .int (iI vm), .int (iI vd), .int (iI vx)]), (xw, aI g 72000 f1)] [(xa, aI g 64 (lfT mW 64)), (xb, aI g 64 (lfT mB 64)), (xc, aI g 27 (lfT mWM 27)), (xd, aI g 27 (lfT mBM 27)), (xe, aI g 13 (lfT mBO 13))] 1 0 (c_X8_write_e l g h0 xa xb xc xd xe xf xg xm xv xw xq xr xh xo xp vc vk vw vg b1 vi ve vf vu vl vr va vt vm vd vx f1 (mBO.getD (y / 64 - 28).toNat 0) T1 (by first | omega | decide | assumption) (by first | omega | decide | assumption) (by first | omega | decide | assumption) (by assumption)) dX8_run_49 k1122 k1124 k26 k57 k1125 ykX8_write rfl rfl rfl rfl rfl rfl rfl rfl (nl rfl) ⟨nl rfl, nl rfl⟩ ⟨(nl rfl), (nl rfl)⟩ rfl (fun v9 w9 hu => ?_)
          obtain ⟨b2_40, f2_41, rfl, rfl, u_42, u_43⟩ := hu
          refine v_is (wn := [(xa, aI g 64 (lfT mW 64)), (xb, aI g 64 (lfT mB 64)), (xc, aI g 27 (lfT mWM 27)), (xd, aI g 27 (lfT mBM 27)), (xe, aI g 13 (lfT mBO 13)), (h0, ob 8 [.ref xa, .ref xb, .ref xc, .ref xd, .ref xe, .ref xf, .ref xg, .int (iI vc), .int (iI vk), .int (iI vw), .ref xm, .ref xv, .int (iI vg), .ref xw, .int (iI b2_40), .int (iI vi), .ref xq, .int (iI ve), .int (iI vf), .int (iI vu), .int (iI vl), .ref xr, .ref xh, .ref xo, .ref xp, .int (iI vr), .int (iI va), .int (iI vt), .int (iI vm), .int (iI vd), .int (iI vx)]), (xw, aI g 72000 f2_41)]) (cn := 0) (sn := 0) (sn2 := []) rfl rfl rfl rfl ?_
          refine v_goto fx 94 dX8_run_52 (by decide) ?_
          refine v_aload_n fx 0 dX8_run_94 rfl rfl ?_
          refine v_iload_n fx 2 dX8_run_95 rfl rfl ?_
          refine v_if_eq fx 111 dX8_run_96 (by decide) rfl (by omega) (fun h_44 => ?_) (fun h_44 => ?_)
          ·
            refine v_aload_n fx 0 dX8_run_111 rfl rfl ?_
            refine v_get fx 5 0 inX8 k996 dX8_run_112 rfl rfl (by decide) rfl rfl rfl ?_
            refine v_iload_n fx 3 dX8_run_115 rfl rfl ?_
            refine v_bipush fx dX8_run_116 (by decide +kernel) rfl ?_
            refine v_irem fx (iI (y % 64)) dX8_run_118 (by decide) (iI_rem (by omega) 64 (by decide) (by decide)) rfl ?_
            refine v_iald fx 0 dX8_run_119 rfl (by omega) (by omega) rfl ?_
            refine v_top (iI (mW.getD (y % 64).toNat 0)) (lfT_all (by decide) _) ?_
            have htt := tabT_at (b := 0) tabT_w (by decide +kernel) rfl (x := y % 64) (by omega)
            have hrb := rbB_lt (x := y % 64) (b := 0) (by omega)
            have htt1 := htt.1
            have htt2 := htt.2
            have hq2 := rc_w (y := y % 64) (bk := bk) (by omega) (by omega)
            refine v_callV (As := [.int (iI (mW.getD (y % 64).toNat 0))]) (rest := []) fx [5, 6] [0, 1, 2, 3, 4] [(h0, ob 8 [.ref xa, .ref xb, .ref xc, .ref xd, .ref xe, .ref xf, .ref xg, .int (iI vc), .int (iI vk), .int (iI vw), .ref xm, .ref xv, .int (iI vg), .ref xw, .int (iI b2_40), .int (iI vi), .ref xq, .int (iI ve), .int (iI vf), .int (iI vu), .int (iI vl), .ref xr, .ref xh, .ref xo, .ref xp, .int (iI vr), .int (iI va), .int (iI vt), .int (iI vm), .int (iI vd), .int (iI vx)]), (xw, aI g 72000 f2_41)] [(xa, aI g 64 (lfT mW 64)), (xb, aI g 64 (lfT mB 64)), (xc, aI g 27 (lfT mWM 27)), (xd, aI g 27 (lfT mBM 27)), (xe, aI g 13 (lfT mBO 13))] 1 0 (c_X8_write_e l g h0 xa xb xc xd xe xf xg xm xv xw xq xr xh xo xp vc vk vw vg b2_40 vi ve vf vu vl vr va vt vm vd vx f2_41 (mW.getD (y % 64).toNat 0) ((T1) ++ codeB (mBO.getD (y / 64 - 28).toNat 0)) (by first | omega | decide | assumption) (by first | omega | decide | assumption) (by first | omega | decide | assumption) (by assumption)) dX8_run_120 k1122 k1124 k26 k57 k1125 ykX8_write rfl rfl rfl rfl rfl rfl rfl rfl (nl rfl) ⟨nl rfl, nl rfl⟩ ⟨(nl rfl), (nl rfl)⟩ rfl (fun v9 w9 hu => ?_)
            obtain ⟨b2_45, f2_46, rfl, rfl, u_47, u_48⟩ := hu
            refine v_is (wn := [(xa, aI g 64 (lfT mW 64)), (xb, aI g 64 (lfT mB 64)), (xc, aI g 27 (lfT mWM 27)), (xd, aI g 27 (lfT mBM 27)), (xe, aI g 13 (lfT mBO 13)), (h0, ob 8 [.ref xa, .ref xb, .ref xc, .ref xd, .ref xe, .ref xf, .ref xg, .int (iI vc), .int (iI vk), .int (iI vw), .ref xm, .ref xv, .int (iI vg), .ref xw, .int (iI b2_45), .int (iI vi), .ref xq, .int (iI ve), .int (iI vf), .int (iI vu), .int (iI vl), .ref xr, .ref xh, .ref xo, .ref xp, .int (iI vr), .int (iI va), .int (iI vt), .int (iI vm), .int (iI vd), .int (iI vx)]), (xw, aI g 72000 f2_46)]) (cn := 0) (sn := 0) (sn2 := []) rfl rfl rfl rfl ?_
            exact v_vret fx [(h0, ob 8 [.ref xa, .ref xb, .ref xc, .ref xd, .ref xe, .ref xf, .ref xg, .int (iI vc), .int (iI vk), .int (iI vw), .ref xm, .ref xv, .int (iI vg), .ref xw, .int (iI b2_45), .int (iI vi), .ref xq, .int (iI ve), .int (iI vf), .int (iI vu), .int (iI vl), .ref xr, .ref xh, .ref xo, .ref xp, .int (iI vr), .int (iI va), .int (iI vt), .int (iI vm), .int (iI vd), .int (iI vx)]), (xw, aI g 72000 f2_46), (xa, aI g 64 (lfT mW 64)), (xb, aI g 64 (lfT mB 64)), (xc, aI g 27 (lfT mWM 27)), (xd, aI g 27 (lfT mBM 27)), (xe, aI g 13 (lfT mBO 13))] [5, 6, 0, 1, 2, 3, 4] hr dX8_run_123 rfl rfl (nl rfl) (nl rfl) ⟨b2_45, f2_46, rfl, rfl, (by first | omega | rfl | assumption), (by first | omega | rfl | assumption), (by first | exact EncR_eq (by assumption) (RunI_e1 hi2_3 (by omega) hq1 hq2) | exact EncR_eq (by assumption) (RunI_e2 hi2_3 (by omega) hq2))⟩
          ·
            refine v_aload_n fx 0 dX8_run_99 rfl rfl ?_
            refine v_get fx 5 1 inX8 k997 dX8_run_100 rfl rfl (by decide) rfl rfl rfl ?_
            refine v_iload_n fx 3 dX8_run_103 rfl rfl ?_
            refine v_bipush fx dX8_run_104 (by decide +kernel) rfl ?_
            refine v_irem fx (iI (y % 64)) dX8_run_106 (by decide) (iI_rem (by omega) 64 (by decide) (by decide)) rfl ?_
            refine v_iald fx 1 dX8_run_107 rfl (by omega) (by omega) rfl ?_
            refine v_top (iI (mB.getD (y % 64).toNat 0)) (lfT_all (by decide) _) ?_
            have htt := tabT_at (b := 1) tabT_b (by decide +kernel) rfl (x := y % 64) (by omega)
            have hrb := rbB_lt (x := y % 64) (b := 1) (by omega)
            have htt1 := htt.1
            have htt2 := htt.2
            have hq2 := rc_b (y := y % 64) (bk := bk) (by omega) (by omega)
            refine v_goto fx 120 dX8_run_108 (by decide) ?_
            refine v_callV (As := [.int (iI (mB.getD (y % 64).toNat 0))]) (rest := []) fx [5, 6] [0, 1, 2, 3, 4] [(h0, ob 8 [.ref xa, .ref xb, .ref xc, .ref xd, .ref xe, .ref xf, .ref xg, .int (iI vc), .int (iI vk), .int (iI vw), .ref xm, .ref xv, .int (iI vg), .ref xw, .int (iI b2_40), .int (iI vi), .ref xq, .int (iI ve), .int (iI vf), .int (iI vu), .int (iI vl), .ref xr, .ref xh, .ref xo, .ref xp, .int (iI vr), .int (iI va), .int (iI vt), .int (iI vm), .int (iI vd), .int (iI vx)]), (xw, aI g 72000 f2_41)] [(xa, aI g 64 (lfT mW 64)), (xb, aI g 64 (lfT mB 64)), (xc, aI g 27 (lfT mWM 27)), (xd, aI g 27 (lfT mBM 27)), (xe, aI g 13 (lfT mBO 13))] 1 0 (c_X8_write_e l g h0 xa xb xc xd xe xf xg xm xv xw xq xr xh xo xp vc vk vw vg b2_40 vi ve vf vu vl vr va vt vm vd vx f2_41 (mB.getD (y % 64).toNat 0) ((T1) ++ codeB (mBO.getD (y / 64 - 28).toNat 0)) (by first | omega | decide | assumption) (by first | omega | decide | assumption) (by first | omega | decide | assumption) (by assumption)) dX8_run_120 k1122 k1124 k26 k57 k1125 ykX8_write rfl rfl rfl rfl rfl rfl rfl rfl (nl rfl) ⟨nl rfl, nl rfl⟩ ⟨(nl rfl), (nl rfl)⟩ rfl (fun v9 w9 hu => ?_)
            obtain ⟨b2_49, f2_50, rfl, rfl, u_51, u_52⟩ := hu
            refine v_is (wn := [(xa, aI g 64 (lfT mW 64)), (xb, aI g 64 (lfT mB 64)), (xc, aI g 27 (lfT mWM 27)), (xd, aI g 27 (lfT mBM 27)), (xe, aI g 13 (lfT mBO 13)), (h0, ob 8 [.ref xa, .ref xb, .ref xc, .ref xd, .ref xe, .ref xf, .ref xg, .int (iI vc), .int (iI vk), .int (iI vw), .ref xm, .ref xv, .int (iI vg), .ref xw, .int (iI b2_49), .int (iI vi), .ref xq, .int (iI ve), .int (iI vf), .int (iI vu), .int (iI vl), .ref xr, .ref xh, .ref xo, .ref xp, .int (iI vr), .int (iI va), .int (iI vt), .int (iI vm), .int (iI vd), .int (iI vx)]), (xw, aI g 72000 f2_50)]) (cn := 0) (sn := 0) (sn2 := []) rfl rfl rfl rfl ?_
            exact v_vret fx [(h0, ob 8 [.ref xa, .ref xb, .ref xc, .ref xd, .ref xe, .ref xf, .ref xg, .int (iI vc), .int (iI vk), .int (iI vw), .ref xm, .ref xv, .int (iI vg), .ref xw, .int (iI b2_49), .int (iI vi), .ref xq, .int (iI ve), .int (iI vf), .int (iI vu), .int (iI vl), .ref xr, .ref xh, .ref xo, .ref xp, .int (iI vr), .int (iI va), .int (iI vt), .int (iI vm), .int (iI vd), .int (iI vx)]), (xw, aI g 72000 f2_50), (xa, aI g 64 (lfT mW 64)), (xb, aI g 64 (lfT mB 64)), (xc, aI g 27 (lfT mWM 27)), (xd, aI g 27 (lfT mBM 27)), (xe, aI g 13 (lfT mBO 13))] [5, 6, 0, 1, 2, 3, 4] hr dX8_run_123 rfl rfl (nl rfl) (nl rfl) ⟨b2_49, f2_50, rfl, rfl, (by first | omega | rfl | assumption), (by first | omega | rfl | assumption), (by first | exact EncR_eq (by assumption) (RunI_e1 hi2_3 (by omega) hq1 hq2) | exact EncR_eq (by assumption) (RunI_e2 hi2_3 (by omega) hq2))⟩
      ·
        refine v_aload_n fx 0 dX8_run_9 rfl rfl ?_
        refine v_aload_n fx 0 dX8_run_10 rfl rfl ?_
        refine v_get fx 0 4 inX8 k1000 dX8_run_11 rfl rfl (by decide) rfl rfl rfl ?_
        refine v_bipush fx dX8_run_14 (by decide +kernel) rfl ?_
        refine v_iald fx 6 dX8_run_16 rfl (by omega) (by omega) rfl ?_
        refine v_top (iI 4127) (by decide) ?_
        have hc9 : clen 4127 = 12 := by decide
        refine v_callV (As := [.int (iI 4127)]) (rest := []) fx [0, 1] [2, 3, 4, 5, 6] [(h0, ob 8 [.ref xa, .ref xb, .ref xc, .ref xd, .ref xe, .ref xf, .ref xg, .int (iI vc), .int (iI vk), .int (iI vw), .ref xm, .ref xv, .int (iI vg), .ref xw, .int (iI b1), .int (iI vi), .ref xq, .int (iI ve), .int (iI vf), .int (iI vu), .int (iI vl), .ref xr, .ref xh, .ref xo, .ref xp, .int (iI vr), .int (iI va), .int (iI vt), .int (iI vm), .int (iI vd), .int (iI vx)]), (xw, aI g 72000 f1)] [(xa, aI g 64 (lfT mW 64)), (xb, aI g 64 (lfT mB 64)), (xc, aI g 27 (lfT mWM 27)), (xd, aI g 27 (lfT mBM 27)), (xe, aI g 13 (lfT mBO 13))] 1 0 (c_X8_write_e l g h0 xa xb xc xd xe xf xg xm xv xw xq xr xh xo xp vc vk vw vg b1 vi ve vf vu vl vr va vt vm vd vx f1 4127 T1 (by first | omega | decide | assumption) (by first | omega | decide | assumption) (by first | omega | decide | assumption) (by assumption)) dX8_run_17 k1122 k1124 k26 k57 k1125 ykX8_write rfl rfl rfl rfl rfl rfl rfl rfl (nl rfl) ⟨nl rfl, nl rfl⟩ ⟨(nl rfl), (nl rfl)⟩ rfl (fun v9 w9 hu => ?_)
        obtain ⟨b2_53, f2_54, rfl, rfl, u_55, u_56⟩ := hu
        refine v_is (wn := [(xa, aI g 64 (lfT mW 64)), (xb, aI g 64 (lfT mB 64)), (xc, aI g 27 (lfT mWM 27)), (xd, aI g 27 (lfT mBM 27)), (xe, aI g 13 (lfT mBO 13)), (h0, ob 8 [.ref xa, .ref xb, .ref xc, .ref xd, .ref xe, .ref xf, .ref xg, .int (iI vc), .int (iI vk), .int (iI vw), .ref xm, .ref xv, .int (iI vg), .ref xw, .int (iI b2_53), .int (iI vi), .ref xq, .int (iI ve), .int (iI vf), .int (iI vu), .int (iI vl), .ref xr, .ref xh, .ref xo, .ref xp, .int (iI vr), .int (iI va), .int (iI vt), .int (iI vm), .int (iI vd), .int (iI vx)]), (xw, aI g 72000 f2_54)]) (cn := 0) (sn := 0) (sn2 := []) rfl rfl rfl rfl ?_
        refine v_iincW fx 3 (y - 2560) [(3, .int (iI (y - 2560))), (0, .ref h0), (1, .int (iI x)), (2, .int (iI bk))] dX8_run_20 rfl (by omega) (by decide) rfl rfl ?_
        refine v_goto fx 2 dX8_run_26 (by decide) ?_
        refine v_ws [5, 6, 0, 1, 2, 3, 4] [(h0, ob 8 [.ref xa, .ref xb, .ref xc, .ref xd, .ref xe, .ref xf, .ref xg, .int (iI vc), .int (iI vk), .int (iI vw), .ref xm, .ref xv, .int (iI vg), .ref xw, .int (iI b2_53), .int (iI vi), .ref xq, .int (iI ve), .int (iI vf), .int (iI vu), .int (iI vl), .ref xr, .ref xh, .ref xo, .ref xp, .int (iI vr), .int (iI va), .int (iI vt), .int (iI vm), .int (iI vd), .int (iI vx)]), (xw, aI g 72000 f2_54), (xa, aI g 64 (lfT mW 64)), (xb, aI g 64 (lfT mB 64)), (xc, aI g 27 (lfT mWM 27)), (xd, aI g 27 (lfT mBM 27)), (xe, aI g 13 (lfT mBO 13))] rfl rfl ?_
        refine v_lv [1, 2, 3, 0] [(0, .ref h0), (1, .int (iI x)), (2, .int (iI bk)), (3, .int (iI (y - 2560)))] rfl ?_
        exact ihL2 (y - 2560) b2_53 f2_54 ((T1) ++ codeB (4127)) (by omega) (by omega) (by assumption) (by exact RunI_b hi2_3 (by omega) (by omega) (rc_103 bk)) (by omega)
  refine v_lv [1, 2, 3, 0] [(0, .ref h0), (1, .int (iI x)), (2, .int (iI bk)), (3, .int (iI x))] rfl ?_
  exact L2 _ x vb f T (by omega) (by omega) (by exact hp4) (by exact RunI_0) (Nat.lt_succ_self _)
abbrev po_c_X8_change_e (g : GG) (h0 : Nat) (xa : Nat) (xb : Nat) (xc : Nat) (xd : Nat) (xe : Nat) (xf : Nat) (xg : Nat) (xm : Nat) (xv : Nat) (xw : Nat) (xq : Nat) (xr : Nat) (xh : Nat) (xo : Nat) (xp : Nat) (vc : Int) (vk : Int) (vw : Int) (vg : Int) (vb : Int) (vi : Int) (ve : Int) (vf : Int) (vu : Int) (vl : Int) (vr : Int) (va : Int) (vt : Int) (vm : Int) (vd : Int) (vx : Int) (oz : Nat) (nz : Nat) (fz : Nat → Int32) (ba : Int) (x : Int) (A : Int → Int) (ln : Int) (k : Int) : Option Value → va_W → Prop := fun v8 w8 => ∃ r : Int, v8 = some (.int (iI r)) ∧ w8 = [(h0, ob 8 [.ref xa, .ref xb, .ref xc, .ref xd, .ref xe, .ref xf, .ref xg, .int (iI vc), .int (iI vk), .int (iI vw), .ref xm, .ref xv, .int (iI vg), .ref xw, .int (iI vb), .int (iI vi), .ref xq, .int (iI ve), .int (iI vf), .int (iI vu), .int (iI vl), .ref xr, .ref xh, .ref xo, .ref xp, .int (iI vr), .int (iI va), .int (iI vt), .int (iI vm), .int (iI vd), .int (iI vx)]), (oz, aZ g nz fz)] ∧ (x < r ∧ r ≤ vw) ∧ (r = A k)
set_option maxHeartbeats 4000000 in
set_option maxRecDepth 100000 in
theorem c_X8_change_e (l : Launch) (g : GG) (h0 : Nat) (xa : Nat) (xb : Nat) (xc : Nat) (xd : Nat) (xe : Nat) (xf : Nat) (xg : Nat) (xm : Nat) (xv : Nat) (xw : Nat) (xq : Nat) (xr : Nat) (xh : Nat) (xo : Nat) (xp : Nat) (vc : Int) (vk : Int) (vw : Int) (vg : Int) (vb : Int) (vi : Int) (ve : Int) (vf : Int) (vu : Int) (vl : Int) (vr : Int) (va : Int) (vt : Int) (vm : Int) (vd : Int) (vx : Int) (oz : Nat) (nz : Nat) (fz : Nat → Int32) (ba : Int) (x : Int) (A : Int → Int) (ln : Int) (k : Int) (hp0 : 0 ≤ ba ∧ ba + 3000 ≤ (nz : Int) ∧ (nz : Int) ≤ 100000) (hp1 : 1 ≤ vw ∧ vw ≤ 3000) (hp2 : -1 ≤ x ∧ x < vw) (hp3 : SmpA vw A ln fz ba) (hp4 : MinI A x k) : Ct l g yX8_change (wM yX8_change cX8_change 5 (some .int)) (rmD 0 0 0) [.ref h0, .ref oz, .int (iI ba), .int (iI x)] [(h0, ob 8 [.ref xa, .ref xb, .ref xc, .ref xd, .ref xe, .ref xf, .ref xg, .int (iI vc), .int (iI vk), .int (iI vw), .ref xm, .ref xv, .int (iI vg), .ref xw, .int (iI vb), .int (iI vi), .ref xq, .int (iI ve), .int (iI vf), .int (iI vu), .int (iI vl), .ref xr, .ref xh, .ref xo, .ref xp, .int (iI vr), .int (iI va), .int (iI vt), .int (iI vm), .int (iI vd), .int (iI vx)]), (oz, aZ g nz fz)] (po_c_X8_change_e g h0 xa xb xc xd xe xf xg xm xv xw xq xr xh xo xp vc vk vw vg vb vi ve vf vu vl vr va vt vm vd vx oz nz fz ba x A ln k) := by
  refine Ct_of (by decide +kernel) (Nat.le_of_ble_eq_true rfl) ?_
  intro p9 e9 s9 m9 ag9 bl9 mt9 c9 A9 fx hr hnm
  have hAb := SmpA_b hp3 hp4.1 (by omega)
  have hAx := hp4.2.1
  refine v_iload_n fx 3 dX8_change_0 rfl rfl ?_
  refine v_iconst fx dX8_change_1 rfl ?_
  refine v_iadd fx (x + 1) dX8_change_2 (by rfl) rfl ?_
  refine v_istore fx [(4, .int (iI (x + 1))), (0, .ref h0), (1, .ref oz), (2, .int (iI ba)), (3, .int (iI x))] dX8_change_3 (by decide) rfl rfl ?_
  have L5 : ∀ (N : Nat) (i : Int), (x < i ∧ i ≤ A k ∧ 0 ≤ i) → ((vw - i).toNat) < N → V p9 l e9 (rmD 0 0 0) s9 m9 ag9 bl9 mt9 c9 5 g A9 (MQ bl9 (cQ g (po_c_X8_change_e g h0 xa xb xc xd xe xf xg xm xv xw xq xr xh xo xp vc vk vw vg vb vi ve vf vu vl vr va vt vm vd vx oz nz fz ba x A ln k) A9) ag9 s9 0 0 A9) [(h0, ob 8 [.ref xa, .ref xb, .ref xc, .ref xd, .ref xe, .ref xf, .ref xg, .int (iI vc), .int (iI vk), .int (iI vw), .ref xm, .ref xv, .int (iI vg), .ref xw, .int (iI vb), .int (iI vi), .ref xq, .int (iI ve), .int (iI vf), .int (iI vu), .int (iI vl), .ref xr, .ref xh, .ref xo, .ref xp, .int (iI vr), .int (iI va), .int (iI vt), .int (iI vm), .int (iI vd), .int (iI vx)]), (oz, aZ g nz fz)] 0 0 [(0, .ref h0), (1, .ref oz), (2, .int (iI ba)), (3, .int (iI x)), (4, .int (iI i))] 5 [] := by
    intro N
    induction N with
    | zero => intro i hi5_0 hN; exact absurd hN (Nat.not_lt_zero _)
    | succ N ihL5 =>
      intro i hi5_0 hN5
      refine v_iload fx 4 dX8_change_5 rfl rfl ?_
      refine v_aload_n fx 0 dX8_change_7 rfl rfl ?_
      refine v_get fx 0 9 inX8 k1005 dX8_change_8 rfl rfl (by decide) rfl rfl rfl ?_
      refine v_icmp_ge fx 50 dX8_change_11 (by decide) rfl (by omega) (by omega) (fun h_1 => ?_) (fun h_1 => ?_)
      ·
        refine v_iload fx 4 dX8_change_50 rfl rfl ?_
        refine v_aload_n fx 0 dX8_change_52 rfl rfl ?_
        refine v_get fx 0 9 inX8 k1005 dX8_change_53 rfl rfl (by decide) rfl rfl rfl ?_
        refine v_icmp_ge fx 64 dX8_change_56 (by decide) rfl (by omega) (by omega) (fun h_2 => ?_) (fun h_2 => ?_)
        ·
          refine v_aload_n fx 0 dX8_change_64 rfl rfl ?_
          refine v_get fx 0 9 inX8 k1005 dX8_change_65 rfl rfl (by decide) rfl rfl rfl ?_
          exact v_iret fx [(h0, ob 8 [.ref xa, .ref xb, .ref xc, .ref xd, .ref xe, .ref xf, .ref xg, .int (iI vc), .int (iI vk), .int (iI vw), .ref xm, .ref xv, .int (iI vg), .ref xw, .int (iI vb), .int (iI vi), .ref xq, .int (iI ve), .int (iI vf), .int (iI vu), .int (iI vl), .ref xr, .ref xh, .ref xo, .ref xp, .int (iI vr), .int (iI va), .int (iI vt), .int (iI vm), .int (iI vd), .int (iI vx)]), (oz, aZ g nz fz)] [0, 1] hr dX8_change_68 rfl rfl (nl rfl) (nl rfl) ⟨vw, rfl, rfl, (by first | omega | rfl | assumption), (by first | omega | rfl | assumption)⟩
        ·
          refine v_iload fx 4 dX8_change_59 rfl rfl ?_
          refine v_goto fx 68 dX8_change_61 (by decide) ?_
          exact v_iret fx [(h0, ob 8 [.ref xa, .ref xb, .ref xc, .ref xd, .ref xe, .ref xf, .ref xg, .int (iI vc), .int (iI vk), .int (iI vw), .ref xm, .ref xv, .int (iI vg), .ref xw, .int (iI vb), .int (iI vi), .ref xq, .int (iI ve), .int (iI vf), .int (iI vu), .int (iI vl), .ref xr, .ref xh, .ref xo, .ref xp, .int (iI vr), .int (iI va), .int (iI vt), .int (iI vm), .int (iI vd), .int (iI vx)]), (oz, aZ g nz fz)] [0, 1] hr dX8_change_68 rfl rfl (nl rfl) (nl rfl) ⟨i, rfl, rfl, (by first | omega | rfl | assumption), (by first | omega | rfl | assumption)⟩
      ·
        refine v_aload_n fx 1 dX8_change_14 rfl rfl ?_
        refine v_iload_n fx 2 dX8_change_15 rfl rfl ?_
        refine v_iload fx 4 dX8_change_16 rfl rfl ?_
        refine v_iadd fx (ba + i) dX8_change_18 (by rfl) rfl ?_
        refine v_zald fx 1 dX8_change_19 rfl (by omega) (by omega) rfl ?_
        refine v_any (fun z_3 hz_3 ez_3 => ?_)
        have hz1 := smp_1 hp3 hp4 (by omega) (by omega) ez_3 hz_3
        refine v_iload fx 4 dX8_change_20 rfl rfl ?_
        refine v_if_le fx 40 dX8_change_22 (by decide) rfl (by omega) (fun h_4 => ?_) (fun h_4 => ?_)
        ·
          have hk0 := MinI_z hp3 hp4 (i := i) (by omega) (by omega)
          refine v_iconst fx dX8_change_40 rfl ?_
          refine v_icmp_ne fx 50 dX8_change_41 (by decide) rfl (by omega) (by omega) (fun h_5 => ?_) (fun h_5 => ?_)
          ·
            refine v_iload fx 4 dX8_change_50 rfl rfl ?_
            refine v_aload_n fx 0 dX8_change_52 rfl rfl ?_
            refine v_get fx 0 9 inX8 k1005 dX8_change_53 rfl rfl (by decide) rfl rfl rfl ?_
            refine v_icmp_ge fx 64 dX8_change_56 (by decide) rfl (by omega) (by omega) (fun h_6 => ?_) (fun h_6 => ?_)
            ·
              refine v_aload_n fx 0 dX8_change_64 rfl rfl ?_
              refine v_get fx 0 9 inX8 k1005 dX8_change_65 rfl rfl (by decide) rfl rfl rfl ?_
              exact v_iret fx [(h0, ob 8 [.ref xa, .ref xb, .ref xc, .ref xd, .ref xe, .ref xf, .ref xg, .int (iI vc), .int (iI vk), .int (iI vw), .ref xm, .ref xv, .int (iI vg), .ref xw, .int (iI vb), .int (iI vi), .ref xq, .int (iI ve), .int (iI vf), .int (iI vu), .int (iI vl), .ref xr, .ref xh, .ref xo, .ref xp, .int (iI vr), .int (iI va), .int (iI vt), .int (iI vm), .int (iI vd), .int (iI vx)]), (oz, aZ g nz fz)] [0, 1] hr dX8_change_68 rfl rfl (nl rfl) (nl rfl) ⟨vw, rfl, rfl, (by first | omega | rfl | assumption), (by first | omega | rfl | assumption)⟩
            ·
              refine v_iload fx 4 dX8_change_59 rfl rfl ?_
              refine v_goto fx 68 dX8_change_61 (by decide) ?_
              exact v_iret fx [(h0, ob 8 [.ref xa, .ref xb, .ref xc, .ref xd, .ref xe, .ref xf, .ref xg, .int (iI vc), .int (iI vk), .int (iI vw), .ref xm, .ref xv, .int (iI vg), .ref xw, .int (iI vb), .int (iI vi), .ref xq, .int (iI ve), .int (iI vf), .int (iI vu), .int (iI vl), .ref xr, .ref xh, .ref xo, .ref xp, .int (iI vr), .int (iI va), .int (iI vt), .int (iI vm), .int (iI vd), .int (iI vx)]), (oz, aZ g nz fz)] [0, 1] hr dX8_change_68 rfl rfl (nl rfl) (nl rfl) ⟨i, rfl, rfl, (by first | omega | rfl | assumption), (by first | omega | rfl | assumption)⟩
          ·
            refine v_iinc fx 4 (i + 1) [(4, .int (iI (i + 1))), (0, .ref h0), (1, .ref oz), (2, .int (iI ba)), (3, .int (iI x))] dX8_change_44 rfl (by omega) (by decide) rfl rfl ?_
            refine v_goto fx 5 dX8_change_47 (by decide) ?_
            refine v_lv [1, 2, 3, 4, 0] [(0, .ref h0), (1, .ref oz), (2, .int (iI ba)), (3, .int (iI x)), (4, .int (iI (i + 1)))] rfl ?_
            exact ihL5 (i + 1) (by omega) (by omega)
        ·
          refine v_aload_n fx 1 dX8_change_25 rfl rfl ?_
          refine v_iload_n fx 2 dX8_change_26 rfl rfl ?_
          refine v_iload fx 4 dX8_change_27 rfl rfl ?_
          refine v_iadd fx (ba + i) dX8_change_29 (by rfl) rfl ?_
          refine v_iconst fx dX8_change_30 rfl ?_
          refine v_isub fx ((ba + i) - 1) dX8_change_31 (by rfl) rfl ?_
          refine v_zald fx 1 dX8_change_32 rfl (by omega) (by omega) rfl ?_
          refine v_any (fun z_7 hz_7 ez_7 => ?_)
          have hz2 := smp_2 hp3 hp4 (by omega) (by omega) ez_7 hz_7
          refine v_if_eq fx 40 dX8_change_33 (by decide) rfl (by omega) (fun h_8 => ?_) (fun h_8 => ?_)
          ·
            refine v_iconst fx dX8_change_40 rfl ?_
            refine v_icmp_ne fx 50 dX8_change_41 (by decide) rfl (by omega) (by omega) (fun h_9 => ?_) (fun h_9 => ?_)
            ·
              refine v_iload fx 4 dX8_change_50 rfl rfl ?_
              refine v_aload_n fx 0 dX8_change_52 rfl rfl ?_
              refine v_get fx 0 9 inX8 k1005 dX8_change_53 rfl rfl (by decide) rfl rfl rfl ?_
              refine v_icmp_ge fx 64 dX8_change_56 (by decide) rfl (by omega) (by omega) (fun h_10 => ?_) (fun h_10 => ?_)
              ·
                refine v_aload_n fx 0 dX8_change_64 rfl rfl ?_
                refine v_get fx 0 9 inX8 k1005 dX8_change_65 rfl rfl (by decide) rfl rfl rfl ?_
                exact v_iret fx [(h0, ob 8 [.ref xa, .ref xb, .ref xc, .ref xd, .ref xe, .ref xf, .ref xg, .int (iI vc), .int (iI vk), .int (iI vw), .ref xm, .ref xv, .int (iI vg), .ref xw, .int (iI vb), .int (iI vi), .ref xq, .int (iI ve), .int (iI vf), .int (iI vu), .int (iI vl), .ref xr, .ref xh, .ref xo, .ref xp, .int (iI vr), .int (iI va), .int (iI vt), .int (iI vm), .int (iI vd), .int (iI vx)]), (oz, aZ g nz fz)] [0, 1] hr dX8_change_68 rfl rfl (nl rfl) (nl rfl) ⟨vw, rfl, rfl, (by first | omega | rfl | assumption), (by first | omega | rfl | assumption)⟩
              ·
                refine v_iload fx 4 dX8_change_59 rfl rfl ?_
                refine v_goto fx 68 dX8_change_61 (by decide) ?_
                exact v_iret fx [(h0, ob 8 [.ref xa, .ref xb, .ref xc, .ref xd, .ref xe, .ref xf, .ref xg, .int (iI vc), .int (iI vk), .int (iI vw), .ref xm, .ref xv, .int (iI vg), .ref xw, .int (iI vb), .int (iI vi), .ref xq, .int (iI ve), .int (iI vf), .int (iI vu), .int (iI vl), .ref xr, .ref xh, .ref xo, .ref xp, .int (iI vr), .int (iI va), .int (iI vt), .int (iI vm), .int (iI vd), .int (iI vx)]), (oz, aZ g nz fz)] [0, 1] hr dX8_change_68 rfl rfl (nl rfl) (nl rfl) ⟨i, rfl, rfl, (by first | omega | rfl | assumption), (by first | omega | rfl | assumption)⟩
            ·
              refine v_iinc fx 4 (i + 1) [(4, .int (iI (i + 1))), (0, .ref h0), (1, .ref oz), (2, .int (iI ba)), (3, .int (iI x))] dX8_change_44 rfl (by omega) (by decide) rfl rfl ?_
              refine v_goto fx 5 dX8_change_47 (by decide) ?_
              refine v_lv [1, 2, 3, 4, 0] [(0, .ref h0), (1, .ref oz), (2, .int (iI ba)), (3, .int (iI x)), (4, .int (iI (i + 1)))] rfl ?_
              exact ihL5 (i + 1) (by omega) (by omega)
          ·
            refine v_iconst fx dX8_change_36 rfl ?_
            refine v_goto fx 41 dX8_change_37 (by decide) ?_
            refine v_icmp_ne fx 50 dX8_change_41 (by decide) rfl (by omega) (by omega) (fun h_11 => ?_) (fun h_11 => ?_)
            ·
              refine v_iload fx 4 dX8_change_50 rfl rfl ?_
              refine v_aload_n fx 0 dX8_change_52 rfl rfl ?_
              refine v_get fx 0 9 inX8 k1005 dX8_change_53 rfl rfl (by decide) rfl rfl rfl ?_
              refine v_icmp_ge fx 64 dX8_change_56 (by decide) rfl (by omega) (by omega) (fun h_12 => ?_) (fun h_12 => ?_)
              ·
                refine v_aload_n fx 0 dX8_change_64 rfl rfl ?_
                refine v_get fx 0 9 inX8 k1005 dX8_change_65 rfl rfl (by decide) rfl rfl rfl ?_
                exact v_iret fx [(h0, ob 8 [.ref xa, .ref xb, .ref xc, .ref xd, .ref xe, .ref xf, .ref xg, .int (iI vc), .int (iI vk), .int (iI vw), .ref xm, .ref xv, .int (iI vg), .ref xw, .int (iI vb), .int (iI vi), .ref xq, .int (iI ve), .int (iI vf), .int (iI vu), .int (iI vl), .ref xr, .ref xh, .ref xo, .ref xp, .int (iI vr), .int (iI va), .int (iI vt), .int (iI vm), .int (iI vd), .int (iI vx)]), (oz, aZ g nz fz)] [0, 1] hr dX8_change_68 rfl rfl (nl rfl) (nl rfl) ⟨vw, rfl, rfl, (by first | omega | rfl | assumption), (by first | omega | rfl | assumption)⟩
              ·
                refine v_iload fx 4 dX8_change_59 rfl rfl ?_
                refine v_goto fx 68 dX8_change_61 (by decide) ?_
                exact v_iret fx [(h0, ob 8 [.ref xa, .ref xb, .ref xc, .ref xd, .ref xe, .ref xf, .ref xg, .int (iI vc), .int (iI vk), .int (iI vw), .ref xm, .ref xv, .int (iI vg), .ref xw, .int (iI vb), .int (iI vi), .ref xq, .int (iI ve), .int (iI vf), .int (iI vu), .int (iI vl), .ref xr, .ref xh, .ref xo, .ref xp, .int (iI vr), .int (iI va), .int (iI vt), .int (iI vm), .int (iI vd), .int (iI vx)]), (oz, aZ g nz fz)] [0, 1] hr dX8_change_68 rfl rfl (nl rfl) (nl rfl) ⟨i, rfl, rfl, (by first | omega | rfl | assumption), (by first | omega | rfl | assumption)⟩
            ·
              refine v_iinc fx 4 (i + 1) [(4, .int (iI (i + 1))), (0, .ref h0), (1, .ref oz), (2, .int (iI ba)), (3, .int (iI x))] dX8_change_44 rfl (by omega) (by decide) rfl rfl ?_
              refine v_goto fx 5 dX8_change_47 (by decide) ?_
              refine v_lv [1, 2, 3, 4, 0] [(0, .ref h0), (1, .ref oz), (2, .int (iI ba)), (3, .int (iI x)), (4, .int (iI (i + 1)))] rfl ?_
              exact ihL5 (i + 1) (by omega) (by omega)
  refine v_lv [1, 2, 3, 4, 0] [(0, .ref h0), (1, .ref oz), (2, .int (iI ba)), (3, .int (iI x)), (4, .int (iI (x + 1)))] rfl ?_
  exact L5 _ (x + 1) (by omega) (Nat.lt_succ_self _)
abbrev po_c_X8_b1_e (g : GG) (h0 : Nat) (xa : Nat) (xb : Nat) (xc : Nat) (xd : Nat) (xe : Nat) (xf : Nat) (xg : Nat) (xm : Nat) (xv : Nat) (xw : Nat) (xq : Nat) (xr : Nat) (xh : Nat) (xo : Nat) (xp : Nat) (vc : Int) (vk : Int) (vw : Int) (vg : Int) (vb : Int) (vi : Int) (ve : Int) (vf : Int) (vu : Int) (vl : Int) (vr : Int) (va : Int) (vt : Int) (vm : Int) (vd : Int) (vx : Int) (oz : Nat) (nz : Nat) (fz : Nat → Int32) (ba : Int) (x : Int) (bk : Int) (A : Int → Int) (ln : Int) (k : Int) : Option Value → va_W → Prop := fun v8 w8 => ∃ r : Int, v8 = some (.int (iI r)) ∧ w8 = [(h0, ob 8 [.ref xa, .ref xb, .ref xc, .ref xd, .ref xe, .ref xf, .ref xg, .int (iI vc), .int (iI vk), .int (iI vw), .ref xm, .ref xv, .int (iI vg), .ref xw, .int (iI vb), .int (iI vi), .ref xq, .int (iI ve), .int (iI vf), .int (iI vu), .int (iI vl), .ref xr, .ref xh, .ref xo, .ref xp, .int (iI vr), .int (iI va), .int (iI vt), .int (iI vm), .int (iI vd), .int (iI vx)]), (oz, aZ g nz fz)] ∧ (x < r ∧ r ≤ vw) ∧ (r = A (nb1 k bk))
set_option maxHeartbeats 4000000 in
set_option maxRecDepth 100000 in
theorem c_X8_b1_e (l : Launch) (g : GG) (h0 : Nat) (xa : Nat) (xb : Nat) (xc : Nat) (xd : Nat) (xe : Nat) (xf : Nat) (xg : Nat) (xm : Nat) (xv : Nat) (xw : Nat) (xq : Nat) (xr : Nat) (xh : Nat) (xo : Nat) (xp : Nat) (vc : Int) (vk : Int) (vw : Int) (vg : Int) (vb : Int) (vi : Int) (ve : Int) (vf : Int) (vu : Int) (vl : Int) (vr : Int) (va : Int) (vt : Int) (vm : Int) (vd : Int) (vx : Int) (oz : Nat) (nz : Nat) (fz : Nat → Int32) (ba : Int) (x : Int) (bk : Int) (A : Int → Int) (ln : Int) (k : Int) (hp0 : -1 ≤ ba ∧ ba + 3000 ≤ (nz : Int) ∧ (nz : Int) ≤ 100000) (hp1 : 1 ≤ vw ∧ vw ≤ 3000) (hp2 : -1 ≤ x ∧ x < vw) (hp3 : 0 ≤ bk ∧ bk ≤ 1) (hp4 : SmpB vw A ln fz ba) (hp5 : MinI A x k) : Ct l g yX8_b1 (wM yX8_b1 cX8_b1 6 (some .int)) (rmD 1 0 0) [.ref h0, .ref oz, .int (iI ba), .int (iI x), .int (iI bk)] [(h0, ob 8 [.ref xa, .ref xb, .ref xc, .ref xd, .ref xe, .ref xf, .ref xg, .int (iI vc), .int (iI vk), .int (iI vw), .ref xm, .ref xv, .int (iI vg), .ref xw, .int (iI vb), .int (iI vi), .ref xq, .int (iI ve), .int (iI vf), .int (iI vu), .int (iI vl), .ref xr, .ref xh, .ref xo, .ref xp, .int (iI vr), .int (iI va), .int (iI vt), .int (iI vm), .int (iI vd), .int (iI vx)]), (oz, aZ g nz fz)] (po_c_X8_b1_e g h0 xa xb xc xd xe xf xg xm xv xw xq xr xh xo xp vc vk vw vg vb vi ve vf vu vl vr va vt vm vd vx oz nz fz ba x bk A ln k) := by
  refine Ct_of (by decide +kernel) (Nat.le_of_ble_eq_true rfl) ?_
  intro p9 e9 s9 m9 ag9 bl9 mt9 c9 A9 fx hr hnm
  refine v_iload_n fx 2 dX8_b1_0 rfl rfl ?_
  refine v_if_ge fx 9 dX8_b1_1 (by decide) rfl (by omega) (fun h_1 => ?_) (fun h_1 => ?_)
  ·
    refine v_aload_n fx 0 dX8_b1_9 rfl rfl ?_
    refine v_aload_n fx 1 dX8_b1_10 rfl rfl ?_
    refine v_iload_n fx 2 dX8_b1_11 rfl rfl ?_
    refine v_iload_n fx 3 dX8_b1_12 rfl rfl ?_
    refine v_callV (As := [.ref oz, .int (iI ba), .int (iI x)]) (rest := []) fx [0, 1] [] [(h0, ob 8 [.ref xa, .ref xb, .ref xc, .ref xd, .ref xe, .ref xf, .ref xg, .int (iI vc), .int (iI vk), .int (iI vw), .ref xm, .ref xv, .int (iI vg), .ref xw, .int (iI vb), .int (iI vi), .ref xq, .int (iI ve), .int (iI vf), .int (iI vu), .int (iI vl), .ref xr, .ref xh, .ref xo, .ref xp, .int (iI vr), .int (iI va), .int (iI vt), .int (iI vm), .int (iI vd), .int (iI vx)]), (oz, aZ g nz fz)] [] 3 0 (c_X8_change_e l g h0 xa xb xc xd xe xf xg xm xv xw xq xr xh xo xp vc vk vw vg vb vi ve vf vu vl vr va vt vm vd vx oz nz fz ba x A ln k (by first | omega | decide | assumption) (by first | omega | decide | assumption) (by first | omega | decide | assumption) (by exact hp4.1 (by omega)) (by exact hp5)) dX8_b1_13 k1130 k1132 k28 k57 k1133 ykX8_change rfl rfl rfl rfl rfl rfl rfl rfl (nl rfl) ⟨nl rfl, nl rfl⟩ ⟨(nl rfl), (nl rfl)⟩ rfl (fun v9 w9 hu => ?_)
    obtain ⟨r1, rfl, rfl, u_2, u_3⟩ := hu
    refine v_is (wn := [(h0, ob 8 [.ref xa, .ref xb, .ref xc, .ref xd, .ref xe, .ref xf, .ref xg, .int (iI vc), .int (iI vk), .int (iI vw), .ref xm, .ref xv, .int (iI vg), .ref xw, .int (iI vb), .int (iI vi), .ref xq, .int (iI ve), .int (iI vf), .int (iI vu), .int (iI vl), .ref xr, .ref xh, .ref xo, .ref xp, .int (iI vr), .int (iI va), .int (iI vt), .int (iI vm), .int (iI vd), .int (iI vx)]), (oz, aZ g nz fz)]) (cn := 0) (sn := 0) (sn2 := [.int (iI r1)]) rfl rfl rfl rfl ?_
    have hr1 := u_3
    refine v_istore fx [(5, .int (iI r1)), (0, .ref h0), (1, .ref oz), (2, .int (iI ba)), (3, .int (iI x)), (4, .int (iI bk))] dX8_b1_16 (by decide) rfl rfl ?_
    refine v_iload fx 0 dX8_b1_18 rfl rfl ?_
    refine v_aload_n fx 1 dX8_b1_20 rfl rfl ?_
    refine v_get fx 0 9 inX8 k1005 dX8_b1_21 rfl rfl (by decide) rfl rfl rfl ?_
    refine v_icmp_ge fx 49 dX8_b1_24 (by decide) rfl (by omega) (by omega) (fun h_4 => ?_) (fun h_4 => ?_)
    ·
      have hww := SmpB_w hp4 hp5.1 (by omega)
      have hfin : r1 = A (nb1 k bk) := by rw [nb1_w hww.1 hww.2]; omega
      refine v_iload fx 0 dX8_b1_49 rfl rfl ?_
      exact v_iret fx [(h0, ob 8 [.ref xa, .ref xb, .ref xc, .ref xd, .ref xe, .ref xf, .ref xg, .int (iI vc), .int (iI vk), .int (iI vw), .ref xm, .ref xv, .int (iI vg), .ref xw, .int (iI vb), .int (iI vi), .ref xq, .int (iI ve), .int (iI vf), .int (iI vu), .int (iI vl), .ref xr, .ref xh, .ref xo, .ref xp, .int (iI vr), .int (iI va), .int (iI vt), .int (iI vm), .int (iI vd), .int (iI vx)]), (oz, aZ g nz fz)] [0, 1] hr dX8_b1_51 rfl rfl (nl rfl) (nl rfl) ⟨r1, rfl, rfl, (by first | omega | rfl | assumption), (by exact hfin)⟩
    ·
      refine v_aload_n fx 2 dX8_b1_27 rfl rfl ?_
      refine v_iload_n fx 3 dX8_b1_28 rfl rfl ?_
      refine v_iload fx 0 dX8_b1_29 rfl rfl ?_
      refine v_iadd fx (ba + r1) dX8_b1_31 (by rfl) rfl ?_
      refine v_zald fx 1 dX8_b1_32 rfl (by omega) (by omega) rfl ?_
      refine v_any (fun z_5 hz_5 ez_5 => ?_)
      have hz1 := SmpB_z hp4 (by omega) hp5.1 (by omega) (hr1 ▸ ez_5) hz_5
      refine v_iload fx 5 dX8_b1_33 rfl rfl ?_
      refine v_icmp_ne fx 49 dX8_b1_35 (by decide) rfl (by omega) (by omega) (fun h_6 => ?_) (fun h_6 => ?_)
      ·
        have hfin : r1 = A (nb1 k bk) := by rw [nb1_0 (by omega) (by omega)]; exact hr1
        refine v_iload fx 0 dX8_b1_49 rfl rfl ?_
        exact v_iret fx [(h0, ob 8 [.ref xa, .ref xb, .ref xc, .ref xd, .ref xe, .ref xf, .ref xg, .int (iI vc), .int (iI vk), .int (iI vw), .ref xm, .ref xv, .int (iI vg), .ref xw, .int (iI vb), .int (iI vi), .ref xq, .int (iI ve), .int (iI vf), .int (iI vu), .int (iI vl), .ref xr, .ref xh, .ref xo, .ref xp, .int (iI vr), .int (iI va), .int (iI vt), .int (iI vm), .int (iI vd), .int (iI vx)]), (oz, aZ g nz fz)] [0, 1] hr dX8_b1_51 rfl rfl (nl rfl) (nl rfl) ⟨r1, rfl, rfl, (by first | omega | rfl | assumption), (by exact hfin)⟩
      ·
        refine v_aload_n fx 1 dX8_b1_38 rfl rfl ?_
        refine v_aload_n fx 2 dX8_b1_39 rfl rfl ?_
        refine v_iload_n fx 3 dX8_b1_40 rfl rfl ?_
        refine v_iload fx 0 dX8_b1_41 rfl rfl ?_
        refine v_callV (As := [.ref oz, .int (iI ba), .int (iI r1)]) (rest := []) fx [0, 1] [] [(h0, ob 8 [.ref xa, .ref xb, .ref xc, .ref xd, .ref xe, .ref xf, .ref xg, .int (iI vc), .int (iI vk), .int (iI vw), .ref xm, .ref xv, .int (iI vg), .ref xw, .int (iI vb), .int (iI vi), .ref xq, .int (iI ve), .int (iI vf), .int (iI vu), .int (iI vl), .ref xr, .ref xh, .ref xo, .ref xp, .int (iI vr), .int (iI va), .int (iI vt), .int (iI vm), .int (iI vd), .int (iI vx)]), (oz, aZ g nz fz)] [] 3 0 (c_X8_change_e l g h0 xa xb xc xd xe xf xg xm xv xw xq xr xh xo xp vc vk vw vg vb vi ve vf vu vl vr va vt vm vd vx oz nz fz ba r1 A ln (k + 1) (by first | omega | decide | assumption) (by first | omega | decide | assumption) (by first | omega | decide | assumption) (by exact hp4.1 (by omega)) (by rw [hr1]; exact SmpA_next (hp4.1 (by omega)) (by omega) hp5.1 (by omega))) dX8_b1_43 k1130 k1132 k28 k57 k1133 ykX8_change rfl rfl rfl rfl rfl rfl rfl rfl (nl rfl) ⟨nl rfl, nl rfl⟩ ⟨(nl rfl), (nl rfl)⟩ rfl (fun v9 w9 hu => ?_)
        obtain ⟨r2, rfl, rfl, u_7, u_8⟩ := hu
        refine v_is (wn := [(h0, ob 8 [.ref xa, .ref xb, .ref xc, .ref xd, .ref xe, .ref xf, .ref xg, .int (iI vc), .int (iI vk), .int (iI vw), .ref xm, .ref xv, .int (iI vg), .ref xw, .int (iI vb), .int (iI vi), .ref xq, .int (iI ve), .int (iI vf), .int (iI vu), .int (iI vl), .ref xr, .ref xh, .ref xo, .ref xp, .int (iI vr), .int (iI va), .int (iI vt), .int (iI vm), .int (iI vd), .int (iI vx)]), (oz, aZ g nz fz)]) (cn := 0) (sn := 0) (sn2 := [.int (iI r2)]) rfl rfl rfl rfl ?_
        have hfin : r2 = A (nb1 k bk) := by rw [nb1_1 (by omega) (by omega)]; exact u_8
        refine v_goto fx 51 dX8_b1_46 (by decide) ?_
        exact v_iret fx [(h0, ob 8 [.ref xa, .ref xb, .ref xc, .ref xd, .ref xe, .ref xf, .ref xg, .int (iI vc), .int (iI vk), .int (iI vw), .ref xm, .ref xv, .int (iI vg), .ref xw, .int (iI vb), .int (iI vi), .ref xq, .int (iI ve), .int (iI vf), .int (iI vu), .int (iI vl), .ref xr, .ref xh, .ref xo, .ref xp, .int (iI vr), .int (iI va), .int (iI vt), .int (iI vm), .int (iI vd), .int (iI vx)]), (oz, aZ g nz fz)] [0, 1] hr dX8_b1_51 rfl rfl (nl rfl) (nl rfl) ⟨r2, rfl, rfl, (by first | omega | rfl | assumption), (by exact hfin)⟩
  ·
    refine v_aload_n fx 0 dX8_b1_4 rfl rfl ?_
    refine v_get fx 0 9 inX8 k1005 dX8_b1_5 rfl rfl (by decide) rfl rfl rfl ?_
    exact v_iret fx [(h0, ob 8 [.ref xa, .ref xb, .ref xc, .ref xd, .ref xe, .ref xf, .ref xg, .int (iI vc), .int (iI vk), .int (iI vw), .ref xm, .ref xv, .int (iI vg), .ref xw, .int (iI vb), .int (iI vi), .ref xq, .int (iI ve), .int (iI vf), .int (iI vu), .int (iI vl), .ref xr, .ref xh, .ref xo, .ref xp, .int (iI vr), .int (iI va), .int (iI vt), .int (iI vm), .int (iI vd), .int (iI vx)]), (oz, aZ g nz fz)] [0, 1] hr dX8_b1_8 rfl rfl (nl rfl) (nl rfl) ⟨vw, rfl, rfl, (by first | omega | rfl | assumption), (by exact (hp4.2 (by omega) _).symm)⟩
abbrev po_c_X8_b2_e (g : GG) (h0 : Nat) (xa : Nat) (xb : Nat) (xc : Nat) (xd : Nat) (xe : Nat) (xf : Nat) (xg : Nat) (xm : Nat) (xv : Nat) (xw : Nat) (xq : Nat) (xr : Nat) (xh : Nat) (xo : Nat) (xp : Nat) (vc : Int) (vk : Int) (vw : Int) (vg : Int) (vb : Int) (vi : Int) (ve : Int) (vf : Int) (vu : Int) (vl : Int) (vr : Int) (va : Int) (vt : Int) (vm : Int) (vd : Int) (vx : Int) (oz : Nat) (nz : Nat) (fz : Nat → Int32) (ba : Int) (x : Int) (A : Int → Int) (ln : Int) (k : Int) : Option Value → va_W → Prop := fun v8 w8 => ∃ r : Int, v8 = some (.int (iI r)) ∧ w8 = [(h0, ob 8 [.ref xa, .ref xb, .ref xc, .ref xd, .ref xe, .ref xf, .ref xg, .int (iI vc), .int (iI vk), .int (iI vw), .ref xm, .ref xv, .int (iI vg), .ref xw, .int (iI vb), .int (iI vi), .ref xq, .int (iI ve), .int (iI vf), .int (iI vu), .int (iI vl), .ref xr, .ref xh, .ref xo, .ref xp, .int (iI vr), .int (iI va), .int (iI vt), .int (iI vm), .int (iI vd), .int (iI vx)]), (oz, aZ g nz fz)] ∧ (x ≤ r ∧ r ≤ vw) ∧ (r = A (k + 1))
set_option maxHeartbeats 4000000 in
set_option maxRecDepth 100000 in
theorem c_X8_b2_e (l : Launch) (g : GG) (h0 : Nat) (xa : Nat) (xb : Nat) (xc : Nat) (xd : Nat) (xe : Nat) (xf : Nat) (xg : Nat) (xm : Nat) (xv : Nat) (xw : Nat) (xq : Nat) (xr : Nat) (xh : Nat) (xo : Nat) (xp : Nat) (vc : Int) (vk : Int) (vw : Int) (vg : Int) (vb : Int) (vi : Int) (ve : Int) (vf : Int) (vu : Int) (vl : Int) (vr : Int) (va : Int) (vt : Int) (vm : Int) (vd : Int) (vx : Int) (oz : Nat) (nz : Nat) (fz : Nat → Int32) (ba : Int) (x : Int) (A : Int → Int) (ln : Int) (k : Int) (hp0 : -1 ≤ ba ∧ ba + 3000 ≤ (nz : Int) ∧ (nz : Int) ≤ 100000) (hp1 : 1 ≤ vw ∧ vw ≤ 3000) (hp2 : 0 ≤ x ∧ x ≤ vw) (hp3 : SmpB vw A ln fz ba) (hp4 : 0 ≤ k ∧ x = A k) : Ct l g yX8_b2 (wM yX8_b2 cX8_b2 4 (some .int)) (rmD 1 0 0) [.ref h0, .ref oz, .int (iI ba), .int (iI x)] [(h0, ob 8 [.ref xa, .ref xb, .ref xc, .ref xd, .ref xe, .ref xf, .ref xg, .int (iI vc), .int (iI vk), .int (iI vw), .ref xm, .ref xv, .int (iI vg), .ref xw, .int (iI vb), .int (iI vi), .ref xq, .int (iI ve), .int (iI vf), .int (iI vu), .int (iI vl), .ref xr, .ref xh, .ref xo, .ref xp, .int (iI vr), .int (iI va), .int (iI vt), .int (iI vm), .int (iI vd), .int (iI vx)]), (oz, aZ g nz fz)] (po_c_X8_b2_e g h0 xa xb xc xd xe xf xg xm xv xw xq xr xh xo xp vc vk vw vg vb vi ve vf vu vl vr va vt vm vd vx oz nz fz ba x A ln k) := by
  refine Ct_of (by decide +kernel) (Nat.le_of_ble_eq_true rfl) ?_
  intro p9 e9 s9 m9 ag9 bl9 mt9 c9 A9 fx hr hnm
  refine v_iload_n fx 2 dX8_b2_0 rfl rfl ?_
  refine v_if_lt fx 12 dX8_b2_1 (by decide) rfl (by omega) (fun h_1 => ?_) (fun h_1 => ?_)
  ·
    have hfin : vw = A (k + 1) := (hp3.2 (by omega) _).symm
    refine v_aload_n fx 0 dX8_b2_12 rfl rfl ?_
    refine v_get fx 0 9 inX8 k1005 dX8_b2_13 rfl rfl (by decide) rfl rfl rfl ?_
    refine v_goto fx 26 dX8_b2_16 (by decide) ?_
    exact v_iret fx [(h0, ob 8 [.ref xa, .ref xb, .ref xc, .ref xd, .ref xe, .ref xf, .ref xg, .int (iI vc), .int (iI vk), .int (iI vw), .ref xm, .ref xv, .int (iI vg), .ref xw, .int (iI vb), .int (iI vi), .ref xq, .int (iI ve), .int (iI vf), .int (iI vu), .int (iI vl), .ref xr, .ref xh, .ref xo, .ref xp, .int (iI vr), .int (iI va), .int (iI vt), .int (iI vm), .int (iI vd), .int (iI vx)]), (oz, aZ g nz fz)] [0, 1] hr dX8_b2_26 rfl rfl (nl rfl) (nl rfl) ⟨vw, rfl, rfl, (by first | omega | rfl | assumption), (by exact hfin)⟩
  ·
    refine v_iload_n fx 3 dX8_b2_4 rfl rfl ?_
    refine v_aload_n fx 0 dX8_b2_5 rfl rfl ?_
    refine v_get fx 0 9 inX8 k1005 dX8_b2_6 rfl rfl (by decide) rfl rfl rfl ?_
    refine v_icmp_lt fx 19 dX8_b2_9 (by decide) rfl (by omega) (by omega) (fun h_2 => ?_) (fun h_2 => ?_)
    ·
      refine v_aload_n fx 0 dX8_b2_19 rfl rfl ?_
      refine v_aload_n fx 1 dX8_b2_20 rfl rfl ?_
      refine v_iload_n fx 2 dX8_b2_21 rfl rfl ?_
      refine v_iload_n fx 3 dX8_b2_22 rfl rfl ?_
      refine v_callV (As := [.ref oz, .int (iI ba), .int (iI x)]) (rest := []) fx [0, 1] [] [(h0, ob 8 [.ref xa, .ref xb, .ref xc, .ref xd, .ref xe, .ref xf, .ref xg, .int (iI vc), .int (iI vk), .int (iI vw), .ref xm, .ref xv, .int (iI vg), .ref xw, .int (iI vb), .int (iI vi), .ref xq, .int (iI ve), .int (iI vf), .int (iI vu), .int (iI vl), .ref xr, .ref xh, .ref xo, .ref xp, .int (iI vr), .int (iI va), .int (iI vt), .int (iI vm), .int (iI vd), .int (iI vx)]), (oz, aZ g nz fz)] [] 3 0 (c_X8_change_e l g h0 xa xb xc xd xe xf xg xm xv xw xq xr xh xo xp vc vk vw vg vb vi ve vf vu vl vr va vt vm vd vx oz nz fz ba x A ln (k + 1) (by first | omega | decide | assumption) (by first | omega | decide | assumption) (by first | omega | decide | assumption) (by exact hp3.1 (by omega)) (by rw [hp4.2]; exact SmpA_next (hp3.1 (by omega)) (by omega) hp4.1 (by omega))) dX8_b2_23 k1130 k1132 k28 k57 k1133 ykX8_change rfl rfl rfl rfl rfl rfl rfl rfl (nl rfl) ⟨nl rfl, nl rfl⟩ ⟨(nl rfl), (nl rfl)⟩ rfl (fun v9 w9 hu => ?_)
      obtain ⟨r2, rfl, rfl, u_3, u_4⟩ := hu
      refine v_is (wn := [(h0, ob 8 [.ref xa, .ref xb, .ref xc, .ref xd, .ref xe, .ref xf, .ref xg, .int (iI vc), .int (iI vk), .int (iI vw), .ref xm, .ref xv, .int (iI vg), .ref xw, .int (iI vb), .int (iI vi), .ref xq, .int (iI ve), .int (iI vf), .int (iI vu), .int (iI vl), .ref xr, .ref xh, .ref xo, .ref xp, .int (iI vr), .int (iI va), .int (iI vt), .int (iI vm), .int (iI vd), .int (iI vx)]), (oz, aZ g nz fz)]) (cn := 0) (sn := 0) (sn2 := [.int (iI r2)]) rfl rfl rfl rfl ?_
      have hfin := u_4
      exact v_iret fx [(h0, ob 8 [.ref xa, .ref xb, .ref xc, .ref xd, .ref xe, .ref xf, .ref xg, .int (iI vc), .int (iI vk), .int (iI vw), .ref xm, .ref xv, .int (iI vg), .ref xw, .int (iI vb), .int (iI vi), .ref xq, .int (iI ve), .int (iI vf), .int (iI vu), .int (iI vl), .ref xr, .ref xh, .ref xo, .ref xp, .int (iI vr), .int (iI va), .int (iI vt), .int (iI vm), .int (iI vd), .int (iI vx)]), (oz, aZ g nz fz)] [0, 1] hr dX8_b2_26 rfl rfl (nl rfl) (nl rfl) ⟨r2, rfl, rfl, (by first | omega | rfl | assumption), (by exact hfin)⟩
    ·
      have hfin : vw = A (k + 1) := (SmpB_w hp3 hp4.1 (by omega)).2.symm
      refine v_aload_n fx 0 dX8_b2_12 rfl rfl ?_
      refine v_get fx 0 9 inX8 k1005 dX8_b2_13 rfl rfl (by decide) rfl rfl rfl ?_
      refine v_goto fx 26 dX8_b2_16 (by decide) ?_
      exact v_iret fx [(h0, ob 8 [.ref xa, .ref xb, .ref xc, .ref xd, .ref xe, .ref xf, .ref xg, .int (iI vc), .int (iI vk), .int (iI vw), .ref xm, .ref xv, .int (iI vg), .ref xw, .int (iI vb), .int (iI vi), .ref xq, .int (iI ve), .int (iI vf), .int (iI vu), .int (iI vl), .ref xr, .ref xh, .ref xo, .ref xp, .int (iI vr), .int (iI va), .int (iI vt), .int (iI vm), .int (iI vd), .int (iI vx)]), (oz, aZ g nz fz)] [0, 1] hr dX8_b2_26 rfl rfl (nl rfl) (nl rfl) ⟨vw, rfl, rfl, (by first | omega | rfl | assumption), (by exact hfin)⟩
abbrev po_c_X8_vertical_e (g : GG) (h0 : Nat) (xa : Nat) (xb : Nat) (xc : Nat) (xd : Nat) (xe : Nat) (xf : Nat) (xg : Nat) (xm : Nat) (xv : Nat) (xw : Nat) (xq : Nat) (xr : Nat) (xh : Nat) (xo : Nat) (xp : Nat) (vc : Int) (vk : Int) (vw : Int) (vg : Int) (vb : Int) (vi : Int) (ve : Int) (vf : Int) (vu : Int) (vl : Int) (vr : Int) (va : Int) (vt : Int) (vm : Int) (vd : Int) (vx : Int) (f : Nat → Int32) (x : Int) (T : List Bool) : Option Value → va_W → Prop := fun v8 w8 => ∃ b2 : Int, ∃ f2 : Nat → Int32, v8 = none ∧ w8 = [(h0, ob 8 [.ref xa, .ref xb, .ref xc, .ref xd, .ref xe, .ref xf, .ref xg, .int (iI vc), .int (iI vk), .int (iI vw), .ref xm, .ref xv, .int (iI vg), .ref xw, .int (iI b2), .int (iI vi), .ref xq, .int (iI ve), .int (iI vf), .int (iI vu), .int (iI vl), .ref xr, .ref xh, .ref xo, .ref xp, .int (iI vr), .int (iI va), .int (iI vt), .int (iI vm), .int (iI vd), .int (iI vx)]), (xw, aI g 72000 f2)] ∧ (vb ≤ b2 ∧ b2 ≤ vb + 7) ∧ (EncR f2 (7 - 7 * vl) b2 (T ++ codeB (vco x)))
set_option maxHeartbeats 4000000 in
set_option maxRecDepth 100000 in
theorem c_X8_vertical_e (l : Launch) (g : GG) (h0 : Nat) (xa : Nat) (xb : Nat) (xc : Nat) (xd : Nat) (xe : Nat) (xf : Nat) (xg : Nat) (xm : Nat) (xv : Nat) (xw : Nat) (xq : Nat) (xr : Nat) (xh : Nat) (xo : Nat) (xp : Nat) (vc : Int) (vk : Int) (vw : Int) (vg : Int) (vb : Int) (vi : Int) (ve : Int) (vf : Int) (vu : Int) (vl : Int) (vr : Int) (va : Int) (vt : Int) (vm : Int) (vd : Int) (vx : Int) (f : Nat → Int32) (x : Int) (T : List Bool) (hp0 : 0 ≤ vb ∧ vb + 7 ≤ 576000) (hp1 : 0 ≤ vl ∧ vl ≤ 1) (hp2 : -3 ≤ x ∧ x ≤ 3) (hp3 : EncR f (7 - 7 * vl) vb T) : Ct l g yX8_vertical (wM yX8_vertical cX8_vertical 3 none) (rmD 2 0 0) [.ref h0, .int (iI x)] [(h0, ob 8 [.ref xa, .ref xb, .ref xc, .ref xd, .ref xe, .ref xf, .ref xg, .int (iI vc), .int (iI vk), .int (iI vw), .ref xm, .ref xv, .int (iI vg), .ref xw, .int (iI vb), .int (iI vi), .ref xq, .int (iI ve), .int (iI vf), .int (iI vu), .int (iI vl), .ref xr, .ref xh, .ref xo, .ref xp, .int (iI vr), .int (iI va), .int (iI vt), .int (iI vm), .int (iI vd), .int (iI vx)]), (xw, aI g 72000 f)] (po_c_X8_vertical_e g h0 xa xb xc xd xe xf xg xm xv xw xq xr xh xo xp vc vk vw vg vb vi ve vf vu vl vr va vt vm vd vx f x T) := by
  refine Ct_of (by decide +kernel) (Nat.le_of_ble_eq_true rfl) ?_
  intro p9 e9 s9 m9 ag9 bl9 mt9 c9 A9 fx hr hnm
  rcases (show x = (-3) ∨ x = (-2) ∨ x = (-1) ∨ x = 0 ∨ x = 1 ∨ x = 2 ∨ x = 3 by omega) with rfl | rfl | rfl | rfl | rfl | rfl | rfl
  ·
    refine v_iload_n fx 1 dX8_vertical_0 rfl rfl ?_
    refine v_if_ne fx 12 dX8_vertical_1 (by decide) rfl (by omega) (fun h_1 => ?_) (fun h0 => absurd h0 (by omega))
    refine v_iload_n fx 1 dX8_vertical_12 rfl rfl ?_
    refine v_if_ge fx 21 dX8_vertical_13 (by decide) rfl (by omega) (fun h0 => absurd h0 (by omega)) (fun h_2 => ?_)
    refine v_iload_n fx 1 dX8_vertical_16 rfl rfl ?_
    refine v_ineg fx (3) dX8_vertical_17 rfl rfl ?_
    refine v_goto fx 22 dX8_vertical_18 (by decide) ?_
    refine v_istore_n fx [(2, .int (iI 3)), (0, .ref h0), (1, .int (iI (-3)))] dX8_vertical_22 (by decide) rfl rfl ?_
    refine v_aload_n fx 1 dX8_vertical_23 rfl rfl ?_
    refine v_iload_n fx 2 dX8_vertical_24 rfl rfl ?_
    refine v_if_le fx 32 dX8_vertical_25 (by decide) rfl (by omega) (fun h_3 => ?_) (fun h0 => absurd h0 (by omega))
    refine v_iconst fx dX8_vertical_32 rfl ?_
    refine v_iload_n fx 0 dX8_vertical_33 rfl rfl ?_
    refine v_iconst fx dX8_vertical_34 rfl ?_
    refine v_icmp_ne fx 42 dX8_vertical_35 (by decide) rfl (by omega) (by omega) (fun h_4 => ?_) (fun h0 => absurd h0 (by omega))
    refine v_iload_n fx 0 dX8_vertical_42 rfl rfl ?_
    refine v_iconst fx dX8_vertical_43 rfl ?_
    refine v_icmp_ne fx 52 dX8_vertical_44 (by decide) rfl (by omega) (by omega) (fun h_5 => ?_) (fun h0 => absurd h0 (by omega))
    refine v_bipush fx dX8_vertical_52 (by decide +kernel) rfl ?_
    refine v_callV (As := [.int (iI 2), .int (iI 7)]) (rest := []) fx [0, 1] [] [(h0, ob 8 [.ref xa, .ref xb, .ref xc, .ref xd, .ref xe, .ref xf, .ref xg, .int (iI vc), .int (iI vk), .int (iI vw), .ref xm, .ref xv, .int (iI vg), .ref xw, .int (iI vb), .int (iI vi), .ref xq, .int (iI ve), .int (iI vf), .int (iI vu), .int (iI vl), .ref xr, .ref xh, .ref xo, .ref xp, .int (iI vr), .int (iI va), .int (iI vt), .int (iI vm), .int (iI vd), .int (iI vx)]), (xw, aI g 72000 f)] [] 2 0 (c_X8_number_e l g h0 xa xb xc xd xe xf xg xm xv xw xq xr xh xo xp vc vk vw vg vb vi ve vf vu vl vr va vt vm vd vx f 2 7 T (by first | omega | decide | assumption) (by first | omega | decide | assumption) (by first | omega | decide | assumption) (by exact hp3)) dX8_vertical_54 k1106 k1108 k22 k57 k1109 ykX8_number rfl rfl rfl rfl rfl rfl rfl rfl (nl rfl) ⟨nl rfl, nl rfl⟩ ⟨(nl rfl), (nl rfl)⟩ rfl (fun v9 w9 hu => ?_)
    obtain ⟨b2_6, f2_7, rfl, rfl, u_8, u_9⟩ := hu
    refine v_is (wn := [(h0, ob 8 [.ref xa, .ref xb, .ref xc, .ref xd, .ref xe, .ref xf, .ref xg, .int (iI vc), .int (iI vk), .int (iI vw), .ref xm, .ref xv, .int (iI vg), .ref xw, .int (iI b2_6), .int (iI vi), .ref xq, .int (iI ve), .int (iI vf), .int (iI vu), .int (iI vl), .ref xr, .ref xh, .ref xo, .ref xp, .int (iI vr), .int (iI va), .int (iI vt), .int (iI vm), .int (iI vd), .int (iI vx)]), (xw, aI g 72000 f2_7)]) (cn := 0) (sn := 0) (sn2 := []) rfl rfl rfl rfl ?_
    have hE0 := u_9
    exact v_vret fx [(h0, ob 8 [.ref xa, .ref xb, .ref xc, .ref xd, .ref xe, .ref xf, .ref xg, .int (iI vc), .int (iI vk), .int (iI vw), .ref xm, .ref xv, .int (iI vg), .ref xw, .int (iI b2_6), .int (iI vi), .ref xq, .int (iI ve), .int (iI vf), .int (iI vu), .int (iI vl), .ref xr, .ref xh, .ref xo, .ref xp, .int (iI vr), .int (iI va), .int (iI vt), .int (iI vm), .int (iI vd), .int (iI vx)]), (xw, aI g 72000 f2_7)] [0, 1] hr dX8_vertical_57 rfl rfl (nl rfl) (nl rfl) ⟨b2_6, f2_7, rfl, rfl, (by first | omega | rfl | assumption), (by first | exact hE | exact EncR_eq hE0 (congrArg (fun L => T ++ L) (by decide +kernel)))⟩
  ·
    refine v_iload_n fx 1 dX8_vertical_0 rfl rfl ?_
    refine v_if_ne fx 12 dX8_vertical_1 (by decide) rfl (by omega) (fun h_10 => ?_) (fun h0 => absurd h0 (by omega))
    refine v_iload_n fx 1 dX8_vertical_12 rfl rfl ?_
    refine v_if_ge fx 21 dX8_vertical_13 (by decide) rfl (by omega) (fun h0 => absurd h0 (by omega)) (fun h_11 => ?_)
    refine v_iload_n fx 1 dX8_vertical_16 rfl rfl ?_
    refine v_ineg fx (2) dX8_vertical_17 rfl rfl ?_
    refine v_goto fx 22 dX8_vertical_18 (by decide) ?_
    refine v_istore_n fx [(2, .int (iI 2)), (0, .ref h0), (1, .int (iI (-2)))] dX8_vertical_22 (by decide) rfl rfl ?_
    refine v_aload_n fx 1 dX8_vertical_23 rfl rfl ?_
    refine v_iload_n fx 2 dX8_vertical_24 rfl rfl ?_
    refine v_if_le fx 32 dX8_vertical_25 (by decide) rfl (by omega) (fun h_12 => ?_) (fun h0 => absurd h0 (by omega))
    refine v_iconst fx dX8_vertical_32 rfl ?_
    refine v_iload_n fx 0 dX8_vertical_33 rfl rfl ?_
    refine v_iconst fx dX8_vertical_34 rfl ?_
    refine v_icmp_ne fx 42 dX8_vertical_35 (by decide) rfl (by omega) (by omega) (fun h_13 => ?_) (fun h0 => absurd h0 (by omega))
    refine v_iload_n fx 0 dX8_vertical_42 rfl rfl ?_
    refine v_iconst fx dX8_vertical_43 rfl ?_
    refine v_icmp_ne fx 52 dX8_vertical_44 (by decide) rfl (by omega) (by omega) (fun h0 => absurd h0 (by omega)) (fun h_14 => ?_)
    refine v_bipush fx dX8_vertical_47 (by decide +kernel) rfl ?_
    refine v_goto fx 54 dX8_vertical_49 (by decide) ?_
    refine v_callV (As := [.int (iI 2), .int (iI 6)]) (rest := []) fx [0, 1] [] [(h0, ob 8 [.ref xa, .ref xb, .ref xc, .ref xd, .ref xe, .ref xf, .ref xg, .int (iI vc), .int (iI vk), .int (iI vw), .ref xm, .ref xv, .int (iI vg), .ref xw, .int (iI vb), .int (iI vi), .ref xq, .int (iI ve), .int (iI vf), .int (iI vu), .int (iI vl), .ref xr, .ref xh, .ref xo, .ref xp, .int (iI vr), .int (iI va), .int (iI vt), .int (iI vm), .int (iI vd), .int (iI vx)]), (xw, aI g 72000 f)] [] 2 0 (c_X8_number_e l g h0 xa xb xc xd xe xf xg xm xv xw xq xr xh xo xp vc vk vw vg vb vi ve vf vu vl vr va vt vm vd vx f 2 6 T (by first | omega | decide | assumption) (by first | omega | decide | assumption) (by first | omega | decide | assumption) (by exact hp3)) dX8_vertical_54 k1106 k1108 k22 k57 k1109 ykX8_number rfl rfl rfl rfl rfl rfl rfl rfl (nl rfl) ⟨nl rfl, nl rfl⟩ ⟨(nl rfl), (nl rfl)⟩ rfl (fun v9 w9 hu => ?_)
    obtain ⟨b2_15, f2_16, rfl, rfl, u_17, u_18⟩ := hu
    refine v_is (wn := [(h0, ob 8 [.ref xa, .ref xb, .ref xc, .ref xd, .ref xe, .ref xf, .ref xg, .int (iI vc), .int (iI vk), .int (iI vw), .ref xm, .ref xv, .int (iI vg), .ref xw, .int (iI b2_15), .int (iI vi), .ref xq, .int (iI ve), .int (iI vf), .int (iI vu), .int (iI vl), .ref xr, .ref xh, .ref xo, .ref xp, .int (iI vr), .int (iI va), .int (iI vt), .int (iI vm), .int (iI vd), .int (iI vx)]), (xw, aI g 72000 f2_16)]) (cn := 0) (sn := 0) (sn2 := []) rfl rfl rfl rfl ?_
    have hE0 := u_18
    exact v_vret fx [(h0, ob 8 [.ref xa, .ref xb, .ref xc, .ref xd, .ref xe, .ref xf, .ref xg, .int (iI vc), .int (iI vk), .int (iI vw), .ref xm, .ref xv, .int (iI vg), .ref xw, .int (iI b2_15), .int (iI vi), .ref xq, .int (iI ve), .int (iI vf), .int (iI vu), .int (iI vl), .ref xr, .ref xh, .ref xo, .ref xp, .int (iI vr), .int (iI va), .int (iI vt), .int (iI vm), .int (iI vd), .int (iI vx)]), (xw, aI g 72000 f2_16)] [0, 1] hr dX8_vertical_57 rfl rfl (nl rfl) (nl rfl) ⟨b2_15, f2_16, rfl, rfl, (by first | omega | rfl | assumption), (by first | exact hE | exact EncR_eq hE0 (congrArg (fun L => T ++ L) (by decide +kernel)))⟩
  ·
    refine v_iload_n fx 1 dX8_vertical_0 rfl rfl ?_
    refine v_if_ne fx 12 dX8_vertical_1 (by decide) rfl (by omega) (fun h_19 => ?_) (fun h0 => absurd h0 (by omega))
    refine v_iload_n fx 1 dX8_vertical_12 rfl rfl ?_
    refine v_if_ge fx 21 dX8_vertical_13 (by decide) rfl (by omega) (fun h0 => absurd h0 (by omega)) (fun h_20 => ?_)
    refine v_iload_n fx 1 dX8_vertical_16 rfl rfl ?_
    refine v_ineg fx (1) dX8_vertical_17 rfl rfl ?_
    refine v_goto fx 22 dX8_vertical_18 (by decide) ?_
    refine v_istore_n fx [(2, .int (iI 1)), (0, .ref h0), (1, .int (iI (-1)))] dX8_vertical_22 (by decide) rfl rfl ?_
    refine v_aload_n fx 1 dX8_vertical_23 rfl rfl ?_
    refine v_iload_n fx 2 dX8_vertical_24 rfl rfl ?_
    refine v_if_le fx 32 dX8_vertical_25 (by decide) rfl (by omega) (fun h_21 => ?_) (fun h0 => absurd h0 (by omega))
    refine v_iconst fx dX8_vertical_32 rfl ?_
    refine v_iload_n fx 0 dX8_vertical_33 rfl rfl ?_
    refine v_iconst fx dX8_vertical_34 rfl ?_
    refine v_icmp_ne fx 42 dX8_vertical_35 (by decide) rfl (by omega) (by omega) (fun h0 => absurd h0 (by omega)) (fun h_22 => ?_)
    refine v_iconst fx dX8_vertical_38 rfl ?_
    refine v_goto fx 54 dX8_vertical_39 (by decide) ?_
    refine v_callV (As := [.int (iI 2), .int (iI 3)]) (rest := []) fx [0, 1] [] [(h0, ob 8 [.ref xa, .ref xb, .ref xc, .ref xd, .ref xe, .ref xf, .ref xg, .int (iI vc), .int (iI vk), .int (iI vw), .ref xm, .ref xv, .int (iI vg), .ref xw, .int (iI vb), .int (iI vi), .ref xq, .int (iI ve), .int (iI vf), .int (iI vu), .int (iI vl), .ref xr, .ref xh, .ref xo, .ref xp, .int (iI vr), .int (iI va), .int (iI vt), .int (iI vm), .int (iI vd), .int (iI vx)]), (xw, aI g 72000 f)] [] 2 0 (c_X8_number_e l g h0 xa xb xc xd xe xf xg xm xv xw xq xr xh xo xp vc vk vw vg vb vi ve vf vu vl vr va vt vm vd vx f 2 3 T (by first | omega | decide | assumption) (by first | omega | decide | assumption) (by first | omega | decide | assumption) (by exact hp3)) dX8_vertical_54 k1106 k1108 k22 k57 k1109 ykX8_number rfl rfl rfl rfl rfl rfl rfl rfl (nl rfl) ⟨nl rfl, nl rfl⟩ ⟨(nl rfl), (nl rfl)⟩ rfl (fun v9 w9 hu => ?_)
    obtain ⟨b2_23, f2_24, rfl, rfl, u_25, u_26⟩ := hu
    refine v_is (wn := [(h0, ob 8 [.ref xa, .ref xb, .ref xc, .ref xd, .ref xe, .ref xf, .ref xg, .int (iI vc), .int (iI vk), .int (iI vw), .ref xm, .ref xv, .int (iI vg), .ref xw, .int (iI b2_23), .int (iI vi), .ref xq, .int (iI ve), .int (iI vf), .int (iI vu), .int (iI vl), .ref xr, .ref xh, .ref xo, .ref xp, .int (iI vr), .int (iI va), .int (iI vt), .int (iI vm), .int (iI vd), .int (iI vx)]), (xw, aI g 72000 f2_24)]) (cn := 0) (sn := 0) (sn2 := []) rfl rfl rfl rfl ?_
    have hE0 := u_26
    exact v_vret fx [(h0, ob 8 [.ref xa, .ref xb, .ref xc, .ref xd, .ref xe, .ref xf, .ref xg, .int (iI vc), .int (iI vk), .int (iI vw), .ref xm, .ref xv, .int (iI vg), .ref xw, .int (iI b2_23), .int (iI vi), .ref xq, .int (iI ve), .int (iI vf), .int (iI vu), .int (iI vl), .ref xr, .ref xh, .ref xo, .ref xp, .int (iI vr), .int (iI va), .int (iI vt), .int (iI vm), .int (iI vd), .int (iI vx)]), (xw, aI g 72000 f2_24)] [0, 1] hr dX8_vertical_57 rfl rfl (nl rfl) (nl rfl) ⟨b2_23, f2_24, rfl, rfl, (by first | omega | rfl | assumption), (by first | exact hE | exact EncR_eq hE0 (congrArg (fun L => T ++ L) (by decide +kernel)))⟩
  ·
    refine v_iload_n fx 1 dX8_vertical_0 rfl rfl ?_
    refine v_if_ne fx 12 dX8_vertical_1 (by decide) rfl (by omega) (fun h0 => absurd h0 (by omega)) (fun h_27 => ?_)
    refine v_aload_n fx 0 dX8_vertical_4 rfl rfl ?_
    refine v_iconst fx dX8_vertical_5 rfl ?_
    refine v_callV (As := [.int (iI 1)]) (rest := []) fx [0, 1] [] [(h0, ob 8 [.ref xa, .ref xb, .ref xc, .ref xd, .ref xe, .ref xf, .ref xg, .int (iI vc), .int (iI vk), .int (iI vw), .ref xm, .ref xv, .int (iI vg), .ref xw, .int (iI vb), .int (iI vi), .ref xq, .int (iI ve), .int (iI vf), .int (iI vu), .int (iI vl), .ref xr, .ref xh, .ref xo, .ref xp, .int (iI vr), .int (iI va), .int (iI vt), .int (iI vm), .int (iI vd), .int (iI vx)]), (xw, aI g 72000 f)] [] 1 0 (c_X8_bit_e l g h0 xa xb xc xd xe xf xg xm xv xw xq xr xh xo xp vc vk vw vg vb vi ve vf vu vl vr va vt vm vd vx f 1 T (by first | omega | decide | assumption) (by first | omega | decide | assumption) (by first | omega | decide | assumption) (by exact hp3)) dX8_vertical_6 k1110 k1112 k23 k57 k1113 ykX8_bit rfl rfl rfl rfl rfl rfl rfl rfl (nl rfl) ⟨nl rfl, nl rfl⟩ ⟨(nl rfl), (nl rfl)⟩ rfl (fun v9 w9 hu => ?_)
    obtain ⟨f2_28, rfl, rfl, u_29⟩ := hu
    refine v_is (wn := [(h0, ob 8 [.ref xa, .ref xb, .ref xc, .ref xd, .ref xe, .ref xf, .ref xg, .int (iI vc), .int (iI vk), .int (iI vw), .ref xm, .ref xv, .int (iI vg), .ref xw, .int (iI (vb + 1)), .int (iI vi), .ref xq, .int (iI ve), .int (iI vf), .int (iI vu), .int (iI vl), .ref xr, .ref xh, .ref xo, .ref xp, .int (iI vr), .int (iI va), .int (iI vt), .int (iI vm), .int (iI vd), .int (iI vx)]), (xw, aI g 72000 f2_28)]) (cn := 0) (sn := 0) (sn2 := []) rfl rfl rfl rfl ?_
    have hE := EncR_eq u_29 (show _ = T ++ codeB (vco 0) from congrArg (fun L => T ++ L) (by decide +kernel))
    refine v_goto fx 57 dX8_vertical_9 (by decide) ?_
    exact v_vret fx [(h0, ob 8 [.ref xa, .ref xb, .ref xc, .ref xd, .ref xe, .ref xf, .ref xg, .int (iI vc), .int (iI vk), .int (iI vw), .ref xm, .ref xv, .int (iI vg), .ref xw, .int (iI (vb + 1)), .int (iI vi), .ref xq, .int (iI ve), .int (iI vf), .int (iI vu), .int (iI vl), .ref xr, .ref xh, .ref xo, .ref xp, .int (iI vr), .int (iI va), .int (iI vt), .int (iI vm), .int (iI vd), .int (iI vx)]), (xw, aI g 72000 f2_28)] [0, 1] hr dX8_vertical_57 rfl rfl (nl rfl) (nl rfl) ⟨(vb + 1), f2_28, rfl, rfl, (by first | omega | rfl | assumption), (by first | exact hE | exact EncR_eq hE0 (congrArg (fun L => T ++ L) (by decide +kernel)))⟩
  ·
    refine v_iload_n fx 1 dX8_vertical_0 rfl rfl ?_
    refine v_if_ne fx 12 dX8_vertical_1 (by decide) rfl (by omega) (fun h_30 => ?_) (fun h0 => absurd h0 (by omega))
    refine v_iload_n fx 1 dX8_vertical_12 rfl rfl ?_
    refine v_if_ge fx 21 dX8_vertical_13 (by decide) rfl (by omega) (fun h_31 => ?_) (fun h0 => absurd h0 (by omega))
    refine v_iload_n fx 1 dX8_vertical_21 rfl rfl ?_
    refine v_istore_n fx [(2, .int (iI 1)), (0, .ref h0), (1, .int (iI 1))] dX8_vertical_22 (by decide) rfl rfl ?_
    refine v_aload_n fx 1 dX8_vertical_23 rfl rfl ?_
    refine v_iload_n fx 2 dX8_vertical_24 rfl rfl ?_
    refine v_if_le fx 32 dX8_vertical_25 (by decide) rfl (by omega) (fun h0 => absurd h0 (by omega)) (fun h_32 => ?_)
    refine v_iconst fx dX8_vertical_28 rfl ?_
    refine v_goto fx 33 dX8_vertical_29 (by decide) ?_
    refine v_iload_n fx 0 dX8_vertical_33 rfl rfl ?_
    refine v_iconst fx dX8_vertical_34 rfl ?_
    refine v_icmp_ne fx 42 dX8_vertical_35 (by decide) rfl (by omega) (by omega) (fun h0 => absurd h0 (by omega)) (fun h_33 => ?_)
    refine v_iconst fx dX8_vertical_38 rfl ?_
    refine v_goto fx 54 dX8_vertical_39 (by decide) ?_
    refine v_callV (As := [.int (iI 3), .int (iI 3)]) (rest := []) fx [0, 1] [] [(h0, ob 8 [.ref xa, .ref xb, .ref xc, .ref xd, .ref xe, .ref xf, .ref xg, .int (iI vc), .int (iI vk), .int (iI vw), .ref xm, .ref xv, .int (iI vg), .ref xw, .int (iI vb), .int (iI vi), .ref xq, .int (iI ve), .int (iI vf), .int (iI vu), .int (iI vl), .ref xr, .ref xh, .ref xo, .ref xp, .int (iI vr), .int (iI va), .int (iI vt), .int (iI vm), .int (iI vd), .int (iI vx)]), (xw, aI g 72000 f)] [] 2 0 (c_X8_number_e l g h0 xa xb xc xd xe xf xg xm xv xw xq xr xh xo xp vc vk vw vg vb vi ve vf vu vl vr va vt vm vd vx f 3 3 T (by first | omega | decide | assumption) (by first | omega | decide | assumption) (by first | omega | decide | assumption) (by exact hp3)) dX8_vertical_54 k1106 k1108 k22 k57 k1109 ykX8_number rfl rfl rfl rfl rfl rfl rfl rfl (nl rfl) ⟨nl rfl, nl rfl⟩ ⟨(nl rfl), (nl rfl)⟩ rfl (fun v9 w9 hu => ?_)
    obtain ⟨b2_34, f2_35, rfl, rfl, u_36, u_37⟩ := hu
    refine v_is (wn := [(h0, ob 8 [.ref xa, .ref xb, .ref xc, .ref xd, .ref xe, .ref xf, .ref xg, .int (iI vc), .int (iI vk), .int (iI vw), .ref xm, .ref xv, .int (iI vg), .ref xw, .int (iI b2_34), .int (iI vi), .ref xq, .int (iI ve), .int (iI vf), .int (iI vu), .int (iI vl), .ref xr, .ref xh, .ref xo, .ref xp, .int (iI vr), .int (iI va), .int (iI vt), .int (iI vm), .int (iI vd), .int (iI vx)]), (xw, aI g 72000 f2_35)]) (cn := 0) (sn := 0) (sn2 := []) rfl rfl rfl rfl ?_
    have hE0 := u_37
    exact v_vret fx [(h0, ob 8 [.ref xa, .ref xb, .ref xc, .ref xd, .ref xe, .ref xf, .ref xg, .int (iI vc), .int (iI vk), .int (iI vw), .ref xm, .ref xv, .int (iI vg), .ref xw, .int (iI b2_34), .int (iI vi), .ref xq, .int (iI ve), .int (iI vf), .int (iI vu), .int (iI vl), .ref xr, .ref xh, .ref xo, .ref xp, .int (iI vr), .int (iI va), .int (iI vt), .int (iI vm), .int (iI vd), .int (iI vx)]), (xw, aI g 72000 f2_35)] [0, 1] hr dX8_vertical_57 rfl rfl (nl rfl) (nl rfl) ⟨b2_34, f2_35, rfl, rfl, (by first | omega | rfl | assumption), (by first | exact hE | exact EncR_eq hE0 (congrArg (fun L => T ++ L) (by decide +kernel)))⟩
  ·
    refine v_iload_n fx 1 dX8_vertical_0 rfl rfl ?_
    refine v_if_ne fx 12 dX8_vertical_1 (by decide) rfl (by omega) (fun h_38 => ?_) (fun h0 => absurd h0 (by omega))
    refine v_iload_n fx 1 dX8_vertical_12 rfl rfl ?_
    refine v_if_ge fx 21 dX8_vertical_13 (by decide) rfl (by omega) (fun h_39 => ?_) (fun h0 => absurd h0 (by omega))
    refine v_iload_n fx 1 dX8_vertical_21 rfl rfl ?_
    refine v_istore_n fx [(2, .int (iI 2)), (0, .ref h0), (1, .int (iI 2))] dX8_vertical_22 (by decide) rfl rfl ?_
    refine v_aload_n fx 1 dX8_vertical_23 rfl rfl ?_
    refine v_iload_n fx 2 dX8_vertical_24 rfl rfl ?_
    refine v_if_le fx 32 dX8_vertical_25 (by decide) rfl (by omega) (fun h0 => absurd h0 (by omega)) (fun h_40 => ?_)
    refine v_iconst fx dX8_vertical_28 rfl ?_
    refine v_goto fx 33 dX8_vertical_29 (by decide) ?_
    refine v_iload_n fx 0 dX8_vertical_33 rfl rfl ?_
    refine v_iconst fx dX8_vertical_34 rfl ?_
    refine v_icmp_ne fx 42 dX8_vertical_35 (by decide) rfl (by omega) (by omega) (fun h_41 => ?_) (fun h0 => absurd h0 (by omega))
    refine v_iload_n fx 0 dX8_vertical_42 rfl rfl ?_
    refine v_iconst fx dX8_vertical_43 rfl ?_
    refine v_icmp_ne fx 52 dX8_vertical_44 (by decide) rfl (by omega) (by omega) (fun h0 => absurd h0 (by omega)) (fun h_42 => ?_)
    refine v_bipush fx dX8_vertical_47 (by decide +kernel) rfl ?_
    refine v_goto fx 54 dX8_vertical_49 (by decide) ?_
    refine v_callV (As := [.int (iI 3), .int (iI 6)]) (rest := []) fx [0, 1] [] [(h0, ob 8 [.ref xa, .ref xb, .ref xc, .ref xd, .ref xe, .ref xf, .ref xg, .int (iI vc), .int (iI vk), .int (iI vw), .ref xm, .ref xv, .int (iI vg), .ref xw, .int (iI vb), .int (iI vi), .ref xq, .int (iI ve), .int (iI vf), .int (iI vu), .int (iI vl), .ref xr, .ref xh, .ref xo, .ref xp, .int (iI vr), .int (iI va), .int (iI vt), .int (iI vm), .int (iI vd), .int (iI vx)]), (xw, aI g 72000 f)] [] 2 0 (c_X8_number_e l g h0 xa xb xc xd xe xf xg xm xv xw xq xr xh xo xp vc vk vw vg vb vi ve vf vu vl vr va vt vm vd vx f 3 6 T (by first | omega | decide | assumption) (by first | omega | decide | assumption) (by first | omega | decide | assumption) (by exact hp3)) dX8_vertical_54 k1106 k1108 k22 k57 k1109 ykX8_number rfl rfl rfl rfl rfl rfl rfl rfl (nl rfl) ⟨nl rfl, nl rfl⟩ ⟨(nl rfl), (nl rfl)⟩ rfl (fun v9 w9 hu => ?_)
    obtain ⟨b2_43, f2_44, rfl, rfl, u_45, u_46⟩ := hu
    refine v_is (wn := [(h0, ob 8 [.ref xa, .ref xb, .ref xc, .ref xd, .ref xe, .ref xf, .ref xg, .int (iI vc), .int (iI vk), .int (iI vw), .ref xm, .ref xv, .int (iI vg), .ref xw, .int (iI b2_43), .int (iI vi), .ref xq, .int (iI ve), .int (iI vf), .int (iI vu), .int (iI vl), .ref xr, .ref xh, .ref xo, .ref xp, .int (iI vr), .int (iI va), .int (iI vt), .int (iI vm), .int (iI vd), .int (iI vx)]), (xw, aI g 72000 f2_44)]) (cn := 0) (sn := 0) (sn2 := []) rfl rfl rfl rfl ?_
    have hE0 := u_46
    exact v_vret fx [(h0, ob 8 [.ref xa, .ref xb, .ref xc, .ref xd, .ref xe, .ref xf, .ref xg, .int (iI vc), .int (iI vk), .int (iI vw), .ref xm, .ref xv, .int (iI vg), .ref xw, .int (iI b2_43), .int (iI vi), .ref xq, .int (iI ve), .int (iI vf), .int (iI vu), .int (iI vl), .ref xr, .ref xh, .ref xo, .ref xp, .int (iI vr), .int (iI va), .int (iI vt), .int (iI vm), .int (iI vd), .int (iI vx)]), (xw, aI g 72000 f2_44)] [0, 1] hr dX8_vertical_57 rfl rfl (nl rfl) (nl rfl) ⟨b2_43, f2_44, rfl, rfl, (by first | omega | rfl | assumption), (by first | exact hE | exact EncR_eq hE0 (congrArg (fun L => T ++ L) (by decide +kernel)))⟩
  ·
    refine v_iload_n fx 1 dX8_vertical_0 rfl rfl ?_
    refine v_if_ne fx 12 dX8_vertical_1 (by decide) rfl (by omega) (fun h_47 => ?_) (fun h0 => absurd h0 (by omega))
    refine v_iload_n fx 1 dX8_vertical_12 rfl rfl ?_
    refine v_if_ge fx 21 dX8_vertical_13 (by decide) rfl (by omega) (fun h_48 => ?_) (fun h0 => absurd h0 (by omega))
    refine v_iload_n fx 1 dX8_vertical_21 rfl rfl ?_
    refine v_istore_n fx [(2, .int (iI 3)), (0, .ref h0), (1, .int (iI 3))] dX8_vertical_22 (by decide) rfl rfl ?_
    refine v_aload_n fx 1 dX8_vertical_23 rfl rfl ?_
    refine v_iload_n fx 2 dX8_vertical_24 rfl rfl ?_
    refine v_if_le fx 32 dX8_vertical_25 (by decide) rfl (by omega) (fun h0 => absurd h0 (by omega)) (fun h_49 => ?_)
    refine v_iconst fx dX8_vertical_28 rfl ?_
    refine v_goto fx 33 dX8_vertical_29 (by decide) ?_
    refine v_iload_n fx 0 dX8_vertical_33 rfl rfl ?_
    refine v_iconst fx dX8_vertical_34 rfl ?_
    refine v_icmp_ne fx 42 dX8_vertical_35 (by decide) rfl (by omega) (by omega) (fun h_50 => ?_) (fun h0 => absurd h0 (by omega))
    refine v_iload_n fx 0 dX8_vertical_42 rfl rfl ?_
    refine v_iconst fx dX8_vertical_43 rfl ?_
    refine v_icmp_ne fx 52 dX8_vertical_44 (by decide) rfl (by omega) (by omega) (fun h_51 => ?_) (fun h0 => absurd h0 (by omega))
    refine v_bipush fx dX8_vertical_52 (by decide +kernel) rfl ?_
    refine v_callV (As := [.int (iI 3), .int (iI 7)]) (rest := []) fx [0, 1] [] [(h0, ob 8 [.ref xa, .ref xb, .ref xc, .ref xd, .ref xe, .ref xf, .ref xg, .int (iI vc), .int (iI vk), .int (iI vw), .ref xm, .ref xv, .int (iI vg), .ref xw, .int (iI vb), .int (iI vi), .ref xq, .int (iI ve), .int (iI vf), .int (iI vu), .int (iI vl), .ref xr, .ref xh, .ref xo, .ref xp, .int (iI vr), .int (iI va), .int (iI vt), .int (iI vm), .int (iI vd), .int (iI vx)]), (xw, aI g 72000 f)] [] 2 0 (c_X8_number_e l g h0 xa xb xc xd xe xf xg xm xv xw xq xr xh xo xp vc vk vw vg vb vi ve vf vu vl vr va vt vm vd vx f 3 7 T (by first | omega | decide | assumption) (by first | omega | decide | assumption) (by first | omega | decide | assumption) (by exact hp3)) dX8_vertical_54 k1106 k1108 k22 k57 k1109 ykX8_number rfl rfl rfl rfl rfl rfl rfl rfl (nl rfl) ⟨nl rfl, nl rfl⟩ ⟨(nl rfl), (nl rfl)⟩ rfl (fun v9 w9 hu => ?_)
    obtain ⟨b2_52, f2_53, rfl, rfl, u_54, u_55⟩ := hu
    refine v_is (wn := [(h0, ob 8 [.ref xa, .ref xb, .ref xc, .ref xd, .ref xe, .ref xf, .ref xg, .int (iI vc), .int (iI vk), .int (iI vw), .ref xm, .ref xv, .int (iI vg), .ref xw, .int (iI b2_52), .int (iI vi), .ref xq, .int (iI ve), .int (iI vf), .int (iI vu), .int (iI vl), .ref xr, .ref xh, .ref xo, .ref xp, .int (iI vr), .int (iI va), .int (iI vt), .int (iI vm), .int (iI vd), .int (iI vx)]), (xw, aI g 72000 f2_53)]) (cn := 0) (sn := 0) (sn2 := []) rfl rfl rfl rfl ?_
    have hE0 := u_55
    exact v_vret fx [(h0, ob 8 [.ref xa, .ref xb, .ref xc, .ref xd, .ref xe, .ref xf, .ref xg, .int (iI vc), .int (iI vk), .int (iI vw), .ref xm, .ref xv, .int (iI vg), .ref xw, .int (iI b2_52), .int (iI vi), .ref xq, .int (iI ve), .int (iI vf), .int (iI vu), .int (iI vl), .ref xr, .ref xh, .ref xo, .ref xp, .int (iI vr), .int (iI va), .int (iI vt), .int (iI vm), .int (iI vd), .int (iI vx)]), (xw, aI g 72000 f2_53)] [0, 1] hr dX8_vertical_57 rfl rfl (nl rfl) (nl rfl) ⟨b2_52, f2_53, rfl, rfl, (by first | omega | rfl | assumption), (by first | exact hE | exact EncR_eq hE0 (congrArg (fun L => T ++ L) (by decide +kernel)))⟩
