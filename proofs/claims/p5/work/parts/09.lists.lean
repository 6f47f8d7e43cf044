/-! LISTS, in general: where each list begins (F), what is kept, what is added -/
def fU (F : Nat → Int) (k : Nat) (v : Int) : Nat → Int := fun j => if j = k then v else F j
/-- the beginnings rise, and the open list's end is within the row of n items -/
def LB (c : Int) (F : Nat → Int) (fs : Nat → Int32) (n : Nat) : Prop := (0 ≤ c ∧ c ≤ 25) ∧ (∀ j, fs j = iI (F j)) ∧ F 0 = 0 ∧ (∀ j : Nat, (j : Int) ≤ c → F j ≤ F (j + 1)) ∧ F (c.toNat + 1) ≤ n ∧ 32 ≤ n ∧ n < 10000000
theorem LB_c {c : Int} {F : Nat → Int} {fs : Nat → Int32} {n : Nat} (h : LB c F fs n) : 0 ≤ c ∧ c ≤ 25 := h.1
theorem LB_n {c : Int} {F : Nat → Int} {fs : Nat → Int32} {n : Nat} (h : LB c F fs n) : 32 ≤ n ∧ n < 10000000 := h.2.2.2.2.2
theorem LB_up {c : Int} {F : Nat → Int} {fs : Nat → Int32} {n : Nat} (h : LB c F fs n) : ∀ (k j : Nat), (j + k : Int) ≤ c + 1 → F j ≤ F (j + k)
  | 0, j, _ => Int.le_refl _
  | k + 1, j, hk => by
    have h1 := LB_up h k j (by omega)
    have h2 := h.2.2.2.1 (j + k) (by omega)
    have e : j + (k + 1) = j + k + 1 := by omega
    rw [e]
    omega
theorem LB_pos {c : Int} {F : Nat → Int} {fs : Nat → Int32} {n : Nat} (h : LB c F fs n) {x : Int} (hx : 0 ≤ x ∧ x ≤ c + 1) : 0 ≤ F x.toNat ∧ F x.toNat ≤ n := by
  have h1 := LB_up h x.toNat 0 (by omega)
  have h2 := LB_up h (c.toNat + 1 - x.toNat) x.toNat (by have := h.1; omega)
  have e1 : 0 + x.toNat = x.toNat := by omega
  have e2 : x.toNat + (c.toNat + 1 - x.toNat) = c.toNat + 1 := by have := h.1; omega
  rw [e1, h.2.2.1] at h1
  rw [e2] at h2
  have h3 := h.2.2.2.2.1
  omega
theorem LB_fs {c : Int} {F : Nat → Int} {fs : Nat → Int32} {n : Nat} (h : LB c F fs n) (x : Int) : fs x.toNat = iI (F x.toNat) := h.2.1 _
theorem LB_fs1 {c : Int} {F : Nat → Int} {fs : Nat → Int32} {n : Nat} (h : LB c F fs n) (x : Int) (hx : 0 ≤ x) : fs (x + 1).toNat = iI (F (x.toNat + 1)) := by
  rw [h.2.1, show (x + 1).toNat = x.toNat + 1 by omega]
theorem LB_len {c : Int} {F : Nat → Int} {fs : Nat → Int32} {n : Nat} (h : LB c F fs n) {x : Int} (hx : 0 ≤ x ∧ x ≤ c) : 0 ≤ F x.toNat ∧ F x.toNat ≤ F (x.toNat + 1) ∧ F (x.toNat + 1) ≤ n := by
  have h1 := LB_pos h (x := x) (by omega)
  have h2 := h.2.2.2.1 x.toNat (by omega)
  have h3 := LB_pos h (x := x + 1) (by omega)
  rw [show (x + 1).toNat = x.toNat + 1 by omega] at h3
  omega
/-- another end of the open list -/
theorem LB_set {c : Int} {F : Nat → Int} {fs : Nat → Int32} {n n2 : Nat} (h : LB c F fs n) {e : Int} (he : F c.toNat ≤ e ∧ e ≤ n2) (hn : n ≤ n2 ∧ n2 < 10000000) : LB c (fU F (c.toNat + 1) e) (upd fs (c + 1).toNat (iI e)) n2 := by
  have hc := h.1
  refine ⟨h.1, fun j => ?_, ?_, fun j hj => ?_, ?_, by have := h.2.2.2.2.2.1; omega, hn.2⟩
  · unfold fU upd
    rw [show (c + 1).toNat = c.toNat + 1 by omega]
    by_cases q : j = c.toNat + 1
    · rw [if_pos q, if_pos q]
    · rw [if_neg q, if_neg q]; exact h.2.1 j
  · unfold fU
    rw [if_neg (by omega)]; exact h.2.2.1
  · unfold fU
    rw [if_neg (by omega)]
    by_cases q : j + 1 = c.toNat + 1
    · rw [if_pos q, show j = c.toNat by omega]; exact he.1
    · rw [if_neg q]; exact h.2.2.2.1 j hj
  · unfold fU
    rw [if_pos rfl]; exact he.2
theorem LB_setE {c : Int} {F : Nat → Int} {fs s2 : Nat → Int32} {n n2 : Nat} {e : Int} (q : upd fs (c + 1).toNat (iI e) = s2) (h : LB c F fs n) (he : F c.toNat ≤ e ∧ e ≤ n2) (hn : n ≤ n2 ∧ n2 < 10000000) : LB c (fU F (c.toNat + 1) e) s2 n2 := q ▸ LB_set h he hn
/-- the open list is closed, a new one begins -/
theorem LB_close {c : Int} {F : Nat → Int} {fs : Nat → Int32} {n : Nat} (h : LB c F fs n) (hc : c < 25) : LB (c + 1) (fU F (c.toNat + 2) (F (c.toNat + 1))) (upd fs (c + 1 + 1).toNat (fs (c + 1).toNat)) n := by
  have h0 := h.1
  refine ⟨by omega, fun j => ?_, ?_, fun j hj => ?_, ?_, h.2.2.2.2.2⟩
  · unfold fU upd
    rw [show (c + 1 + 1).toNat = c.toNat + 2 by omega, show (c + 1).toNat = c.toNat + 1 by omega]
    by_cases q : j = c.toNat + 2
    · rw [if_pos q, if_pos q]; exact h.2.1 _
    · rw [if_neg q, if_neg q]; exact h.2.1 j
  · unfold fU
    rw [if_neg (by omega)]; exact h.2.2.1
  · unfold fU
    rw [if_neg (by omega)]
    by_cases q : j + 1 = c.toNat + 2
    · rw [if_pos q, show j = c.toNat + 1 by omega]; omega
    · rw [if_neg q]; exact h.2.2.2.1 j (by omega)
  · unfold fU
    rw [if_pos (by omega)]; exact h.2.2.2.2.1
theorem LB_0 {c : Int} {F : Nat → Int} {fs : Nat → Int32} {n : Nat} (h : LB c F fs n) : LB 0 (fU F 1 0) (upd fs (1 : Int).toNat (iI 0)) n := by
  refine ⟨by omega, fun j => ?_, ?_, fun j hj => ?_, ?_, h.2.2.2.2.2⟩
  · unfold fU upd
    by_cases q : j = 1
    · rw [if_pos q]; simp [q]
    · rw [if_neg q, if_neg (by simpa using q)]; exact h.2.1 j
  · unfold fU
    rw [if_neg (by omega)]; exact h.2.2.1
  · have : j = 0 := by omega
    subst this
    unfold fU
    rw [if_neg (by omega), if_pos (by omega), h.2.2.1]; omega
  · unfold fU
    rw [if_pos (by decide)]; omega
theorem LB_0E {c : Int} {F : Nat → Int} {fs s2 : Nat → Int32} {n : Nat} (q : upd fs (1 : Int).toNat (iI 0) = s2) (h : LB c F fs n) : LB 0 (fU F 1 0) s2 n := q ▸ LB_0 h
theorem updE_keep {f0 f2 fi : Nat → Int32} {k : Nat} {x : Int32} {E : Int} (q : upd f0 k x = f2) (hk : E ≤ k) (h : ∀ j : Nat, (j : Int) < E → f0 j = fi j) : ∀ j : Nat, (j : Int) < E → f2 j = fi j := fun j hj => by rw [← q, pk_un (by omega)]; exact h j hj
theorem updE_at {f0 f2 : Nat → Int32} {k : Nat} {x : Int32} (q : upd f0 k x = f2) : f2 k = x := by rw [← q, pk_us]
theorem LB_empty {c : Int} {F : Nat → Int} {fs : Nat → Int32} {n : Nat} (h : LB c F fs n) : LB c (fU F (c.toNat + 1) (F c.toNat)) (upd fs (c + 1).toNat (fs c.toNat)) n := by
  rw [h.2.1 c.toNat]
  have h1 := LB_len h (x := c) (by have := h.1; omega)
  exact LB_set h (by omega) (by have := LB_n h; omega)
/-- item i, as an Int -/
def vl (fi : Nat → Int32) (i : Int) : Int := (fi i.toNat).toInt
/-- items a .. e rise, from 0 on, and are below p -/
def inc (fi : Nat → Int32) (a e p : Int) : Prop := ∀ i : Int, a ≤ i → i < e → (0 ≤ vl fi i ∧ vl fi i < p) ∧ ∀ j : Int, a ≤ j → j < i → vl fi j < vl fi i
theorem inc_mono {fi : Nat → Int32} {a e p p2 : Int} (h : inc fi a e p) (hp : p ≤ p2) : inc fi a e p2 := fun i h1 h2 => ⟨⟨(h i h1 h2).1.1, by have := (h i h1 h2).1.2; omega⟩, (h i h1 h2).2⟩
theorem inc_sub {fi : Nat → Int32} {a e e2 p : Int} (h : inc fi a e p) (he : e2 ≤ e) : inc fi a e2 p := fun i h1 h2 => h i h1 (by omega)
theorem inc_keep {fi f2 : Nat → Int32} {a e p E : Int} (h : inc fi a e p) (h0 : 0 ≤ a) (he : e ≤ E) (hk : ∀ j : Nat, (j : Int) < E → f2 j = fi j) : inc f2 a e p := by
  have hv : ∀ i : Int, a ≤ i → i < e → vl f2 i = vl fi i := fun i h1 h2 => by unfold vl; rw [hk i.toNat (by omega)]
  intro i h1 h2
  rw [hv i h1 h2]
  exact ⟨(h i h1 h2).1, fun j h3 h4 => by rw [hv j h3 (by omega)]; exact (h i h1 h2).2 j h3 h4⟩
theorem inc_low {fi : Nat → Int32} {a p : Int} : ∀ (k : Nat) (e : Int), inc fi a e p → e = a + k + 1 → (k : Int) ≤ vl fi (e - 1)
  | 0, e, h, he => (h (e - 1) (by omega) (by omega)).1.1
  | k + 1, e, h, he => by
    have h1 := inc_low k (e - 1) (inc_sub h (by omega)) (by omega)
    have h2 := (h (e - 1) (by omega) (by omega)).2 (e - 1 - 1) (by omega) (by omega)
    omega
theorem inc_len {fi : Nat → Int32} {a e p : Int} (h : inc fi a e p) (hp : 0 ≤ p) : e - a ≤ p := by
  by_cases he : a < e
  · have h1 := inc_low (e - a - 1).toNat e h (by omega)
    have h2 := (h (e - 1) (by omega) (by omega)).1.2
    omega
  · omega
theorem inc_app {fi f2 : Nat → Int32} {a e p x p2 : Int} (h : inc fi a e p) (h0 : 0 ≤ a ∧ a ≤ e) (hk : ∀ j : Nat, (j : Int) < e → f2 j = fi j) (hx : f2 e.toNat = iI x) (hp : p ≤ x ∧ x < p2 ∧ 0 ≤ x ∧ x < 2147483648) : inc f2 a (e + 1) p2 := by
  have h1 := inc_keep h h0.1 (Int.le_refl e) hk
  have hv : vl f2 e = x := by unfold vl; rw [hx, iI_toInt (by omega)]
  intro i h2 h3
  by_cases hi : i = e
  · subst hi
    rw [hv]
    exact ⟨by omega, fun j h4 h5 => by have := (h1 j h4 h5).1.2; omega⟩
  · exact ⟨⟨(h1 i h2 (by omega)).1.1, by have := (h1 i h2 (by omega)).1.2; omega⟩, (h1 i h2 (by omega)).2⟩
theorem inc_none {fi : Nat → Int32} {a p : Int} : inc fi a a p := fun i h1 h2 => by omega
/-- the closed lists rise, below w -/
def RI (w c : Int) (F : Nat → Int) (fi : Nat → Int32) : Prop := ∀ l : Nat, (l : Int) < c → inc fi (F l) (F (l + 1)) w
theorem RI_keep {w c : Int} {F : Nat → Int} {fs : Nat → Int32} {n : Nat} {fi f2 : Nat → Int32} {E : Int} (hL : LB c F fs n) (h : RI w c F fi) (hE : F c.toNat ≤ E) (hk : ∀ j : Nat, (j : Int) < E → f2 j = fi j) (v : Int) : RI w c (fU F (c.toNat + 1) v) f2 := by
  have hc := hL.1
  intro l hl
  have e1 : fU F (c.toNat + 1) v l = F l := by unfold fU; rw [if_neg (by omega)]
  have e2 : fU F (c.toNat + 1) v (l + 1) = F (l + 1) := by unfold fU; rw [if_neg (by omega)]
  rw [e1, e2]
  have h1 := LB_up hL (c.toNat - (l + 1)) (l + 1) (by omega)
  rw [show l + 1 + (c.toNat - (l + 1)) = c.toNat by omega] at h1
  have h2 := LB_pos hL (x := (l : Int)) (by omega)
  rw [Int.toNat_natCast] at h2
  exact inc_keep (h l hl) h2.1 (by omega) hk
theorem RI_len {w c : Int} {F : Nat → Int} {fs : Nat → Int32} {n : Nat} {fi : Nat → Int32} (hL : LB c F fs n) (h : RI w c F fi) (hw : 0 ≤ w ∧ w ≤ 3000) : ∀ l : Nat, (l : Int) ≤ c → F l ≤ 3000 * l
  | 0, _ => by rw [hL.2.2.1]; omega
  | l + 1, hl => by
    have h1 := RI_len hL h hw l (by omega)
    have h2 := inc_len (h l (by omega)) hw.1
    omega
theorem RI_close {w c : Int} {F : Nat → Int} {fs : Nat → Int32} {n : Nat} {fi : Nat → Int32} (hL : LB c F fs n) (h : RI w c F fi) (ho : inc fi (F c.toNat) (F (c.toNat + 1)) w) (v : Int) : RI w (c + 1) (fU F (c.toNat + 2) v) fi := by
  have hc := hL.1
  intro l hl
  have e1 : fU F (c.toNat + 2) v l = F l := by unfold fU; rw [if_neg (by omega)]
  have e2 : fU F (c.toNat + 2) v (l + 1) = F (l + 1) := by unfold fU; rw [if_neg (by omega)]
  rw [e1, e2]
  by_cases q : (l : Int) < c
  · exact h l q
  · rw [show l = c.toNat by omega]; exact ho
theorem fU_c {F : Nat → Int} {k : Nat} {v : Int} {j : Nat} (h : j ≠ k) : fU F k v j = F j := if_neg h
theorem fU_s {F : Nat → Int} {k : Nat} {v : Int} : fU F k v k = v := if_pos rfl
theorem fU_same {F : Nat → Int} {k : Nat} : fU F k (F k) = F := by
  funext j
  unfold fU
  by_cases h : j = k
  · rw [if_pos h, h]
  · rw [if_neg h]
theorem fU_fU {F : Nat → Int} {k : Nat} {a b : Int} : fU (fU F k a) k b = fU F k b := by
  funext j
  unfold fU
  by_cases h : j = k
  · rw [if_pos h, if_pos h]
  · rw [if_neg h, if_neg h, if_neg h]
theorem fU_b {F : Nat → Int} {c : Nat} {v : Int} : fU F (c + 1) v c = F c := if_neg (by omega)
/-- item k of list x, or what is told for none -/
noncomputable def itm (F : Nat → Int) (fi : Nat → Int32) (c d x k : Int) : Int := if 0 ≤ x ∧ x ≤ c ∧ 0 ≤ k ∧ k < F (x.toNat + 1) - F x.toNat then vl fi (F x.toNat + k) else d
theorem itm_in {F : Nat → Int} {fi : Nat → Int32} {c d x k : Int} (h : 0 ≤ x ∧ x ≤ c ∧ 0 ≤ k ∧ k < F (x.toNat + 1) - F x.toNat) : itm F fi c d x k = vl fi (F x.toNat + k) := if_pos h
theorem itm_out {F : Nat → Int} {fi : Nat → Int32} {c d x k : Int} (h : ¬ (0 ≤ x ∧ x ≤ c ∧ 0 ≤ k ∧ k < F (x.toNat + 1) - F x.toNat)) : itm F fi c d x k = d := if_neg h
theorem itm_or {F : Nat → Int} {fi : Nat → Int32} {c d x k : Int} : (0 ≤ x ∧ x ≤ c ∧ 0 ≤ k ∧ k < F (x.toNat + 1) - F x.toNat ∧ itm F fi c d x k = vl fi (F x.toNat + k)) ∨ ((x < 0 ∨ c < x ∨ k < 0 ∨ F (x.toNat + 1) - F x.toNat ≤ k) ∧ itm F fi c d x k = d) := by
  by_cases h : 0 ≤ x ∧ x ≤ c ∧ 0 ≤ k ∧ k < F (x.toNat + 1) - F x.toNat
  · exact Or.inl ⟨h.1, h.2.1, h.2.2.1, h.2.2.2, itm_in h⟩
  · exact Or.inr ⟨by omega, itm_out h⟩
theorem LB_new : LB 0 (fun _ => 0) (fun _ => 0) 32 := ⟨by omega, fun _ => rfl, rfl, fun _ _ => Int.le_refl _, by decide, by decide, by decide⟩
theorem dX2_count_0 : decode cX2_count 0 = .ok (.aload_n 0, 1) := by decide +kernel
theorem dX2_count_1 : decode cX2_count 1 = .ok (.getfield 18, 3) := by decide +kernel
theorem dX2_count_4 : decode cX2_count 4 = .ok (.ireturn, 1) := by decide +kernel
abbrev po_c_X2_count (g : GG) (h0 : Nat) (h1 : Nat) (it : Nat) (c : Int) : Option Value → va_W → Prop := fun v8 w8 => v8 = some (.int (iI c)) ∧ w8 = [(h0, ob 2 [.ref h1, .ref it, .int (iI c)])]
set_option maxHeartbeats 4000000 in
set_option maxRecDepth 100000 in
theorem c_X2_count (l : Launch) (g : GG) (h0 : Nat) (h1 : Nat) (it : Nat) (c : Int) : Ct l g yX2_count (wM yX2_count cX2_count 1 (some .int)) (rmD 0 0 0) [.ref h0] [(h0, ob 2 [.ref h1, .ref it, .int (iI c)])] (po_c_X2_count g h0 h1 it c) := by
  refine Ct_of (by decide +kernel) (Nat.le_of_ble_eq_true rfl) ?_
  intro p9 e9 s9 m9 ag9 bl9 mt9 c9 A9 fx hr hnm
  refine v_aload_n fx 0 dX2_count_0 rfl rfl ?_
  refine v_get fx 0 2 inX2 k107 dX2_count_1 rfl rfl (by decide) rfl rfl rfl ?_
  exact v_iret fx [(h0, ob 2 [.ref h1, .ref it, .int (iI c)])] [0] hr dX2_count_4 rfl rfl (nl rfl) (nl rfl) ⟨rfl, rfl⟩
theorem dX2_has_0 : decode cX2_has 0 = .ok (.iload_n 1, 1) := by decide +kernel
theorem dX2_has_1 : decode cX2_has 1 = .ok (.ifCond .lt 15, 3) := by decide +kernel
theorem dX2_has_4 : decode cX2_has 4 = .ok (.iload_n 1, 1) := by decide +kernel
theorem dX2_has_5 : decode cX2_has 5 = .ok (.aload_n 0, 1) := by decide +kernel
theorem dX2_has_6 : decode cX2_has 6 = .ok (.getfield 18, 3) := by decide +kernel
theorem dX2_has_9 : decode cX2_has 9 = .ok (.if_icmp .ge 7, 3) := by decide +kernel
theorem dX2_has_12 : decode cX2_has 12 = .ok (.iconst 1, 1) := by decide +kernel
theorem dX2_has_13 : decode cX2_has 13 = .ok (.goto 4, 3) := by decide +kernel
theorem dX2_has_16 : decode cX2_has 16 = .ok (.iconst 0, 1) := by decide +kernel
theorem dX2_has_17 : decode cX2_has 17 = .ok (.ireturn, 1) := by decide +kernel
abbrev po_c_X2_has (g : GG) (h0 : Nat) (h1 : Nat) (it : Nat) (c : Int) (x : Int) : Option Value → va_W → Prop := fun v8 w8 => ∃ r : Int, v8 = some (.int (iI r)) ∧ w8 = [(h0, ob 2 [.ref h1, .ref it, .int (iI c)])] ∧ ((r = 1 ∧ 0 ≤ x ∧ x < c) ∨ (r = 0 ∧ (x < 0 ∨ c ≤ x)))
set_option maxHeartbeats 4000000 in
set_option maxRecDepth 100000 in
theorem c_X2_has (l : Launch) (g : GG) (h0 : Nat) (h1 : Nat) (it : Nat) (c : Int) (x : Int) (hp0 : -2147483648 ≤ x ∧ x < 2147483648) (hp1 : -2147483648 ≤ c ∧ c < 2147483648) : Ct l g yX2_has (wM yX2_has cX2_has 2 (some .boolean)) (rmD 0 0 0) [.ref h0, .int (iI x)] [(h0, ob 2 [.ref h1, .ref it, .int (iI c)])] (po_c_X2_has g h0 h1 it c x) := by
  refine Ct_of (by decide +kernel) (Nat.le_of_ble_eq_true rfl) ?_
  intro p9 e9 s9 m9 ag9 bl9 mt9 c9 A9 fx hr hnm
  refine v_iload_n fx 1 dX2_has_0 rfl rfl ?_
  refine v_if_lt fx 16 dX2_has_1 (by decide) rfl (by omega) (fun h_1 => ?_) (fun h_1 => ?_)
  ·
    refine v_iconst fx dX2_has_16 rfl ?_
    exact v_zret fx [(h0, ob 2 [.ref h1, .ref it, .int (iI c)])] [0] hr dX2_has_17 (by first | rfl | exact nar_z _ (by omega)) rfl rfl (nl rfl) (nl rfl) ⟨0, rfl, rfl, (by first | omega | rfl | assumption)⟩
  ·
    refine v_iload_n fx 1 dX2_has_4 rfl rfl ?_
    refine v_aload_n fx 0 dX2_has_5 rfl rfl ?_
    refine v_get fx 0 2 inX2 k107 dX2_has_6 rfl rfl (by decide) rfl rfl rfl ?_
    refine v_icmp_ge fx 16 dX2_has_9 (by decide) rfl (by omega) (by omega) (fun h_2 => ?_) (fun h_2 => ?_)
    ·
      refine v_iconst fx dX2_has_16 rfl ?_
      exact v_zret fx [(h0, ob 2 [.ref h1, .ref it, .int (iI c)])] [0] hr dX2_has_17 (by first | rfl | exact nar_z _ (by omega)) rfl rfl (nl rfl) (nl rfl) ⟨0, rfl, rfl, (by first | omega | rfl | assumption)⟩
    ·
      refine v_iconst fx dX2_has_12 rfl ?_
      refine v_goto fx 17 dX2_has_13 (by decide) ?_
      exact v_zret fx [(h0, ob 2 [.ref h1, .ref it, .int (iI c)])] [0] hr dX2_has_17 (by first | rfl | exact nar_z _ (by omega)) rfl rfl (nl rfl) (nl rfl) ⟨1, rfl, rfl, (by first | omega | rfl | assumption)⟩
theorem dX2_length_0 : decode cX2_length 0 = .ok (.iload_n 1, 1) := by decide +kernel
theorem dX2_length_1 : decode cX2_length 1 = .ok (.ifCond .lt 29, 3) := by decide +kernel
theorem dX2_length_4 : decode cX2_length 4 = .ok (.iload_n 1, 1) := by decide +kernel
theorem dX2_length_5 : decode cX2_length 5 = .ok (.aload_n 0, 1) := by decide +kernel
theorem dX2_length_6 : decode cX2_length 6 = .ok (.getfield 18, 3) := by decide +kernel
theorem dX2_length_9 : decode cX2_length 9 = .ok (.if_icmp .gt 21, 3) := by decide +kernel
theorem dX2_length_12 : decode cX2_length 12 = .ok (.aload_n 0, 1) := by decide +kernel
theorem dX2_length_13 : decode cX2_length 13 = .ok (.getfield 11, 3) := by decide +kernel
theorem dX2_length_16 : decode cX2_length 16 = .ok (.iload_n 1, 1) := by decide +kernel
theorem dX2_length_17 : decode cX2_length 17 = .ok (.iconst 1, 1) := by decide +kernel
theorem dX2_length_18 : decode cX2_length 18 = .ok (.iadd, 1) := by decide +kernel
theorem dX2_length_19 : decode cX2_length 19 = .ok (.iaload, 1) := by decide +kernel
theorem dX2_length_20 : decode cX2_length 20 = .ok (.aload_n 0, 1) := by decide +kernel
theorem dX2_length_21 : decode cX2_length 21 = .ok (.getfield 11, 3) := by decide +kernel
theorem dX2_length_24 : decode cX2_length 24 = .ok (.iload_n 1, 1) := by decide +kernel
theorem dX2_length_25 : decode cX2_length 25 = .ok (.iaload, 1) := by decide +kernel
theorem dX2_length_26 : decode cX2_length 26 = .ok (.isub, 1) := by decide +kernel
theorem dX2_length_27 : decode cX2_length 27 = .ok (.goto 4, 3) := by decide +kernel
theorem dX2_length_30 : decode cX2_length 30 = .ok (.iconst 0, 1) := by decide +kernel
theorem dX2_length_31 : decode cX2_length 31 = .ok (.ireturn, 1) := by decide +kernel
abbrev po_c_X2_length (g : GG) (h0 : Nat) (h1 : Nat) (it : Nat) (n : Nat) (c : Int) (F : Nat → Int) (fs : Nat → Int32) (fi : Nat → Int32) (x : Int) : Option Value → va_W → Prop := fun v8 w8 => ∃ r : Int, v8 = some (.int (iI r)) ∧ w8 = [(h0, ob 2 [.ref h1, .ref it, .int (iI c)]), (h1, aI g 27 fs)] ∧ ((0 ≤ x ∧ x ≤ c ∧ r = F (x.toNat + 1) - F x.toNat) ∨ ((x < 0 ∨ c < x) ∧ r = 0)) ∧ (0 ≤ r ∧ r ≤ n)
set_option maxHeartbeats 4000000 in
set_option maxRecDepth 100000 in
theorem c_X2_length (l : Launch) (g : GG) (h0 : Nat) (h1 : Nat) (it : Nat) (n : Nat) (c : Int) (F : Nat → Int) (fs : Nat → Int32) (fi : Nat → Int32) (x : Int) (hp0 : LB c F fs n) (hp1 : -2147483648 ≤ x ∧ x < 2147483648) : Ct l g yX2_length (wM yX2_length cX2_length 2 (some .int)) (rmD 0 0 0) [.ref h0, .int (iI x)] [(h0, ob 2 [.ref h1, .ref it, .int (iI c)]), (h1, aI g 27 fs)] (po_c_X2_length g h0 h1 it n c F fs fi x) := by
  refine Ct_of (by decide +kernel) (Nat.le_of_ble_eq_true rfl) ?_
  intro p9 e9 s9 m9 ag9 bl9 mt9 c9 A9 fx hr hnm
  have hc := LB_c hp0
  have hn := LB_n hp0
  refine v_iload_n fx 1 dX2_length_0 rfl rfl ?_
  refine v_if_lt fx 30 dX2_length_1 (by decide) rfl (by omega) (fun h_1 => ?_) (fun h_1 => ?_)
  ·
    refine v_iconst fx dX2_length_30 rfl ?_
    exact v_iret fx [(h0, ob 2 [.ref h1, .ref it, .int (iI c)]), (h1, aI g 27 fs)] [0, 1] hr dX2_length_31 rfl rfl (nl rfl) (nl rfl) ⟨0, rfl, rfl, (by first | omega | rfl | assumption), (by first | omega | rfl | assumption)⟩
  ·
    refine v_iload_n fx 1 dX2_length_4 rfl rfl ?_
    refine v_aload_n fx 0 dX2_length_5 rfl rfl ?_
    refine v_get fx 0 2 inX2 k107 dX2_length_6 rfl rfl (by decide) rfl rfl rfl ?_
    refine v_icmp_gt fx 30 dX2_length_9 (by decide) rfl (by omega) (by omega) (fun h_2 => ?_) (fun h_2 => ?_)
    ·
      refine v_iconst fx dX2_length_30 rfl ?_
      exact v_iret fx [(h0, ob 2 [.ref h1, .ref it, .int (iI c)]), (h1, aI g 27 fs)] [0, 1] hr dX2_length_31 rfl rfl (nl rfl) (nl rfl) ⟨0, rfl, rfl, (by first | omega | rfl | assumption), (by first | omega | rfl | assumption)⟩
    ·
      have hlen := LB_len hp0 (x := x) (by omega)
      refine v_aload_n fx 0 dX2_length_12 rfl rfl ?_
      refine v_get fx 0 0 inX2 k105 dX2_length_13 rfl rfl (by decide) rfl rfl rfl ?_
      refine v_iload_n fx 1 dX2_length_16 rfl rfl ?_
      refine v_iconst fx dX2_length_17 rfl ?_
      refine v_iadd fx (x + 1) dX2_length_18 (by rfl) rfl ?_
      refine v_iald fx 1 dX2_length_19 rfl (by omega) (by omega) rfl ?_
      refine v_top (iI (F (x.toNat + 1))) (LB_fs1 hp0 _ (by omega)) ?_
      refine v_aload_n fx 0 dX2_length_20 rfl rfl ?_
      refine v_get fx 0 0 inX2 k105 dX2_length_21 rfl rfl (by decide) rfl rfl rfl ?_
      refine v_iload_n fx 1 dX2_length_24 rfl rfl ?_
      refine v_iald fx 1 dX2_length_25 rfl (by omega) (by omega) rfl ?_
      refine v_top (iI (F x.toNat)) (LB_fs hp0 _) ?_
      refine v_isub fx ((F (x.toNat + 1)) - (F x.toNat)) dX2_length_26 (by rfl) rfl ?_
      refine v_goto fx 31 dX2_length_27 (by decide) ?_
      exact v_iret fx [(h0, ob 2 [.ref h1, .ref it, .int (iI c)]), (h1, aI g 27 fs)] [0, 1] hr dX2_length_31 rfl rfl (nl rfl) (nl rfl) ⟨((F (x.toNat + 1)) - (F x.toNat)), rfl, rfl, (by first | omega | rfl | assumption), (by first | omega | rfl | assumption)⟩
theorem dX2_item_0 : decode cX2_item 0 = .ok (.iload_n 1, 1) := by decide +kernel
theorem dX2_item_1 : decode cX2_item 1 = .ok (.ifCond .lt 34, 3) := by decide +kernel
theorem dX2_item_4 : decode cX2_item 4 = .ok (.iload_n 1, 1) := by decide +kernel
theorem dX2_item_5 : decode cX2_item 5 = .ok (.aload_n 0, 1) := by decide +kernel
theorem dX2_item_6 : decode cX2_item 6 = .ok (.getfield 18, 3) := by decide +kernel
theorem dX2_item_9 : decode cX2_item 9 = .ok (.if_icmp .gt 26, 3) := by decide +kernel
theorem dX2_item_12 : decode cX2_item 12 = .ok (.iload_n 2, 1) := by decide +kernel
theorem dX2_item_13 : decode cX2_item 13 = .ok (.ifCond .lt 22, 3) := by decide +kernel
theorem dX2_item_16 : decode cX2_item 16 = .ok (.iload_n 2, 1) := by decide +kernel
theorem dX2_item_17 : decode cX2_item 17 = .ok (.aload_n 0, 1) := by decide +kernel
theorem dX2_item_18 : decode cX2_item 18 = .ok (.getfield 11, 3) := by decide +kernel
theorem dX2_item_21 : decode cX2_item 21 = .ok (.iload_n 1, 1) := by decide +kernel
theorem dX2_item_22 : decode cX2_item 22 = .ok (.iconst 1, 1) := by decide +kernel
theorem dX2_item_23 : decode cX2_item 23 = .ok (.iadd, 1) := by decide +kernel
theorem dX2_item_24 : decode cX2_item 24 = .ok (.iaload, 1) := by decide +kernel
theorem dX2_item_25 : decode cX2_item 25 = .ok (.aload_n 0, 1) := by decide +kernel
theorem dX2_item_26 : decode cX2_item 26 = .ok (.getfield 11, 3) := by decide +kernel
theorem dX2_item_29 : decode cX2_item 29 = .ok (.iload_n 1, 1) := by decide +kernel
theorem dX2_item_30 : decode cX2_item 30 = .ok (.iaload, 1) := by decide +kernel
theorem dX2_item_31 : decode cX2_item 31 = .ok (.isub, 1) := by decide +kernel
theorem dX2_item_32 : decode cX2_item 32 = .ok (.if_icmp .lt 5, 3) := by decide +kernel
theorem dX2_item_35 : decode cX2_item 35 = .ok (.iload_n 3, 1) := by decide +kernel
theorem dX2_item_36 : decode cX2_item 36 = .ok (.ireturn, 1) := by decide +kernel
theorem dX2_item_37 : decode cX2_item 37 = .ok (.aload_n 0, 1) := by decide +kernel
theorem dX2_item_38 : decode cX2_item 38 = .ok (.getfield 15, 3) := by decide +kernel
theorem dX2_item_41 : decode cX2_item 41 = .ok (.aload_n 0, 1) := by decide +kernel
theorem dX2_item_42 : decode cX2_item 42 = .ok (.getfield 11, 3) := by decide +kernel
theorem dX2_item_45 : decode cX2_item 45 = .ok (.iload_n 1, 1) := by decide +kernel
theorem dX2_item_46 : decode cX2_item 46 = .ok (.iaload, 1) := by decide +kernel
theorem dX2_item_47 : decode cX2_item 47 = .ok (.iload_n 2, 1) := by decide +kernel
theorem dX2_item_48 : decode cX2_item 48 = .ok (.iadd, 1) := by decide +kernel
theorem dX2_item_49 : decode cX2_item 49 = .ok (.iaload, 1) := by decide +kernel
theorem dX2_item_50 : decode cX2_item 50 = .ok (.ireturn, 1) := by decide +kernel
abbrev po_c_X2_item (g : GG) (h0 : Nat) (h1 : Nat) (it : Nat) (n : Nat) (c : Int) (F : Nat → Int) (fs : Nat → Int32) (fi : Nat → Int32) (x : Int) (k : Int) (d : Int) : Option Value → va_W → Prop := fun v8 w8 => ∃ r : Int, v8 = some (.int (iI r)) ∧ w8 = [(h0, ob 2 [.ref h1, .ref it, .int (iI c)]), (h1, aI g 27 fs), (it, aI g n fi)] ∧ (r = itm F fi c d x k) ∧ (-2147483648 ≤ r ∧ r < 2147483648)
set_option maxHeartbeats 4000000 in
set_option maxRecDepth 100000 in
theorem c_X2_item (l : Launch) (g : GG) (h0 : Nat) (h1 : Nat) (it : Nat) (n : Nat) (c : Int) (F : Nat → Int) (fs : Nat → Int32) (fi : Nat → Int32) (x : Int) (k : Int) (d : Int) (hp0 : LB c F fs n) (hp1 : -2147483648 ≤ x ∧ x < 2147483648) (hp2 : -2147483648 ≤ k ∧ k < 2147483648) (hp3 : -2147483648 ≤ d ∧ d < 2147483648) : Ct l g yX2_item (wM yX2_item cX2_item 4 (some .int)) (rmD 0 0 0) [.ref h0, .int (iI x), .int (iI k), .int (iI d)] [(h0, ob 2 [.ref h1, .ref it, .int (iI c)]), (h1, aI g 27 fs), (it, aI g n fi)] (po_c_X2_item g h0 h1 it n c F fs fi x k d) := by
  refine Ct_of (by decide +kernel) (Nat.le_of_ble_eq_true rfl) ?_
  intro p9 e9 s9 m9 ag9 bl9 mt9 c9 A9 fx hr hnm
  have hc := LB_c hp0
  have hn := LB_n hp0
  refine v_iload_n fx 1 dX2_item_0 rfl rfl ?_
  refine v_if_lt fx 35 dX2_item_1 (by decide) rfl (by omega) (fun h_1 => ?_) (fun h_1 => ?_)
  ·
    refine v_iload_n fx 3 dX2_item_35 rfl rfl ?_
    exact v_iret fx [(h0, ob 2 [.ref h1, .ref it, .int (iI c)]), (h1, aI g 27 fs), (it, aI g n fi)] [0, 1, 2] hr dX2_item_36 rfl rfl (nl rfl) (nl rfl) ⟨d, rfl, rfl, (by exact (itm_out (by omega)).symm), (by first | omega | rfl | assumption)⟩
  ·
    refine v_iload_n fx 1 dX2_item_4 rfl rfl ?_
    refine v_aload_n fx 0 dX2_item_5 rfl rfl ?_
    refine v_get fx 0 2 inX2 k107 dX2_item_6 rfl rfl (by decide) rfl rfl rfl ?_
    refine v_icmp_gt fx 35 dX2_item_9 (by decide) rfl (by omega) (by omega) (fun h_2 => ?_) (fun h_2 => ?_)
    ·
      refine v_iload_n fx 3 dX2_item_35 rfl rfl ?_
      exact v_iret fx [(h0, ob 2 [.ref h1, .ref it, .int (iI c)]), (h1, aI g 27 fs), (it, aI g n fi)] [0, 1, 2] hr dX2_item_36 rfl rfl (nl rfl) (nl rfl) ⟨d, rfl, rfl, (by exact (itm_out (by omega)).symm), (by first | omega | rfl | assumption)⟩
    ·
      have hlen := LB_len hp0 (x := x) (by omega)
      refine v_iload_n fx 2 dX2_item_12 rfl rfl ?_
      refine v_if_lt fx 35 dX2_item_13 (by decide) rfl (by omega) (fun h_3 => ?_) (fun h_3 => ?_)
      ·
        refine v_iload_n fx 3 dX2_item_35 rfl rfl ?_
        exact v_iret fx [(h0, ob 2 [.ref h1, .ref it, .int (iI c)]), (h1, aI g 27 fs), (it, aI g n fi)] [0, 1, 2] hr dX2_item_36 rfl rfl (nl rfl) (nl rfl) ⟨d, rfl, rfl, (by exact (itm_out (by omega)).symm), (by first | omega | rfl | assumption)⟩
      ·
        refine v_iload_n fx 2 dX2_item_16 rfl rfl ?_
        refine v_aload_n fx 0 dX2_item_17 rfl rfl ?_
        refine v_get fx 0 0 inX2 k105 dX2_item_18 rfl rfl (by decide) rfl rfl rfl ?_
        refine v_iload_n fx 1 dX2_item_21 rfl rfl ?_
        refine v_iconst fx dX2_item_22 rfl ?_
        refine v_iadd fx (x + 1) dX2_item_23 (by rfl) rfl ?_
        refine v_iald fx 1 dX2_item_24 rfl (by omega) (by omega) rfl ?_
        refine v_top (iI (F (x.toNat + 1))) (LB_fs1 hp0 _ (by omega)) ?_
        refine v_aload_n fx 0 dX2_item_25 rfl rfl ?_
        refine v_get fx 0 0 inX2 k105 dX2_item_26 rfl rfl (by decide) rfl rfl rfl ?_
        refine v_iload_n fx 1 dX2_item_29 rfl rfl ?_
        refine v_iald fx 1 dX2_item_30 rfl (by omega) (by omega) rfl ?_
        refine v_top (iI (F x.toNat)) (LB_fs hp0 _) ?_
        refine v_isub fx ((F (x.toNat + 1)) - (F x.toNat)) dX2_item_31 (by rfl) rfl ?_
        refine v_icmp_lt fx 37 dX2_item_32 (by decide) rfl (by omega) (by omega) (fun h_4 => ?_) (fun h_4 => ?_)
        ·
          refine v_aload_n fx 0 dX2_item_37 rfl rfl ?_
          refine v_get fx 0 1 inX2 k106 dX2_item_38 rfl rfl (by decide) rfl rfl rfl ?_
          refine v_aload_n fx 0 dX2_item_41 rfl rfl ?_
          refine v_get fx 0 0 inX2 k105 dX2_item_42 rfl rfl (by decide) rfl rfl rfl ?_
          refine v_iload_n fx 1 dX2_item_45 rfl rfl ?_
          refine v_iald fx 1 dX2_item_46 rfl (by omega) (by omega) rfl ?_
          refine v_top (iI (F x.toNat)) (LB_fs hp0 _) ?_
          refine v_iload_n fx 2 dX2_item_47 rfl rfl ?_
          refine v_iadd fx ((F x.toNat) + k) dX2_item_48 (by rfl) rfl ?_
          refine v_iald fx 2 dX2_item_49 rfl (by omega) (by omega) rfl ?_
          refine v_any (fun z_5 hz_5 ez_5 => ?_)
          have hv : z_5 = vl fi (F x.toNat + k) := by unfold vl; rw [ez_5, iI_toInt hz_5]
          exact v_iret fx [(h0, ob 2 [.ref h1, .ref it, .int (iI c)]), (h1, aI g 27 fs), (it, aI g n fi)] [0, 1, 2] hr dX2_item_50 rfl rfl (nl rfl) (nl rfl) ⟨z_5, rfl, rfl, (by rw [itm_in (by omega)]; exact hv), (by first | omega | rfl | assumption)⟩
        ·
          refine v_iload_n fx 3 dX2_item_35 rfl rfl ?_
          exact v_iret fx [(h0, ob 2 [.ref h1, .ref it, .int (iI c)]), (h1, aI g 27 fs), (it, aI g n fi)] [0, 1, 2] hr dX2_item_36 rfl rfl (nl rfl) (nl rfl) ⟨d, rfl, rfl, (by exact (itm_out (by omega)).symm), (by first | omega | rfl | assumption)⟩
theorem dX2_append_0 : decode cX2_append 0 = .ok (.aload_n 0, 1) := by decide +kernel
theorem dX2_append_1 : decode cX2_append 1 = .ok (.getfield 11, 3) := by decide +kernel
theorem dX2_append_4 : decode cX2_append 4 = .ok (.aload_n 0, 1) := by decide +kernel
theorem dX2_append_5 : decode cX2_append 5 = .ok (.getfield 18, 3) := by decide +kernel
theorem dX2_append_8 : decode cX2_append 8 = .ok (.iconst 1, 1) := by decide +kernel
theorem dX2_append_9 : decode cX2_append 9 = .ok (.iadd, 1) := by decide +kernel
theorem dX2_append_10 : decode cX2_append 10 = .ok (.iaload, 1) := by decide +kernel
theorem dX2_append_11 : decode cX2_append 11 = .ok (.istore_n 2, 1) := by decide +kernel
theorem dX2_append_12 : decode cX2_append 12 = .ok (.iload_n 2, 1) := by decide +kernel
theorem dX2_append_13 : decode cX2_append 13 = .ok (.aload_n 0, 1) := by decide +kernel
theorem dX2_append_14 : decode cX2_append 14 = .ok (.getfield 15, 3) := by decide +kernel
theorem dX2_append_17 : decode cX2_append 17 = .ok (.arraylength, 1) := by decide +kernel
theorem dX2_append_18 : decode cX2_append 18 = .ok (.if_icmp .lt 17, 3) := by decide +kernel
theorem dX2_append_21 : decode cX2_append 21 = .ok (.aload_n 0, 1) := by decide +kernel
theorem dX2_append_22 : decode cX2_append 22 = .ok (.aload_n 0, 1) := by decide +kernel
theorem dX2_append_23 : decode cX2_append 23 = .ok (.getfield 15, 3) := by decide +kernel
theorem dX2_append_26 : decode cX2_append 26 = .ok (.iconst 2, 1) := by decide +kernel
theorem dX2_append_27 : decode cX2_append 27 = .ok (.iload_n 2, 1) := by decide +kernel
theorem dX2_append_28 : decode cX2_append 28 = .ok (.imul, 1) := by decide +kernel
theorem dX2_append_29 : decode cX2_append 29 = .ok (.invokestatic 22, 3) := by decide +kernel
theorem dX2_append_32 : decode cX2_append 32 = .ok (.putfield 15, 3) := by decide +kernel
theorem dX2_append_35 : decode cX2_append 35 = .ok (.aload_n 0, 1) := by decide +kernel
theorem dX2_append_36 : decode cX2_append 36 = .ok (.getfield 15, 3) := by decide +kernel
theorem dX2_append_39 : decode cX2_append 39 = .ok (.iload_n 2, 1) := by decide +kernel
theorem dX2_append_40 : decode cX2_append 40 = .ok (.iload_n 1, 1) := by decide +kernel
theorem dX2_append_41 : decode cX2_append 41 = .ok (.iastore, 1) := by decide +kernel
theorem dX2_append_42 : decode cX2_append 42 = .ok (.aload_n 0, 1) := by decide +kernel
theorem dX2_append_43 : decode cX2_append 43 = .ok (.getfield 11, 3) := by decide +kernel
theorem dX2_append_46 : decode cX2_append 46 = .ok (.aload_n 0, 1) := by decide +kernel
theorem dX2_append_47 : decode cX2_append 47 = .ok (.getfield 18, 3) := by decide +kernel
theorem dX2_append_50 : decode cX2_append 50 = .ok (.iconst 1, 1) := by decide +kernel
theorem dX2_append_51 : decode cX2_append 51 = .ok (.iadd, 1) := by decide +kernel
theorem dX2_append_52 : decode cX2_append 52 = .ok (.iload_n 2, 1) := by decide +kernel
theorem dX2_append_53 : decode cX2_append 53 = .ok (.iconst 1, 1) := by decide +kernel
theorem dX2_append_54 : decode cX2_append 54 = .ok (.iadd, 1) := by decide +kernel
theorem dX2_append_55 : decode cX2_append 55 = .ok (.iastore, 1) := by decide +kernel
theorem dX2_append_56 : decode cX2_append 56 = .ok (.return_, 1) := by decide +kernel
abbrev po_c_X2_append (g : GG) (h0 : Nat) (h1 : Nat) (it : Nat) (n : Nat) (c : Int) (F : Nat → Int) (fs : Nat → Int32) (fi : Nat → Int32) (x : Int32) : Option Value → va_W → Nat → Nat → Prop := fun v8 w8 kc8 ks8 => ∃ i2 : Nat, ∃ n2 : Nat, ∃ s2 : Nat → Int32, ∃ f2 : Nat → Int32, v8 = none ∧ w8 = [(h0, ob 2 [.ref h1, .ref i2, .int (iI c)]), (h1, aI g 27 s2), (i2, aI g n2 f2)] ∧ (LB c (fU F (c.toNat + 1) (F (c.toNat + 1) + 1)) s2 n2) ∧ (ks8 + 2 * n ≤ 2 * n2 ∧ 64 * kc8 ≤ ks8 ∧ n ≤ n2 ∧ n2 ≤ 160000) ∧ (∀ j : Nat, (j : Int) < F (c.toNat + 1) → f2 j = fi j) ∧ (f2 (F (c.toNat + 1)).toNat = x)
set_option maxHeartbeats 4000000 in
set_option maxRecDepth 100000 in
theorem c_X2_append (l : Launch) (g : GG) (h0 : Nat) (h1 : Nat) (it : Nat) (n : Nat) (c : Int) (F : Nat → Int) (fs : Nat → Int32) (fi : Nat → Int32) (x : Int32) (hp0 : LB c F fs n) (hp1 : F (c.toNat + 1) ≤ 80000) (hp2 : n ≤ 160000) : CtE l g yX2_append (wM yX2_append cX2_append 3 none) (rmD 2 1 (2 * n)) [.ref h0, .int x] [(h0, ob 2 [.ref h1, .ref it, .int (iI c)]), (h1, aI g 27 fs), (it, aI g n fi)] (po_c_X2_append g h0 h1 it n c F fs fi x) := by
  refine CtE_of (by decide +kernel) (Nat.le_of_ble_eq_true rfl) ?_
  intro p9 e9 s9 m9 ag9 bl9 mt9 c9 A9 fx hr hnm
  have hc := LB_c hp0
  have hn := LB_n hp0
  have hlen := LB_len hp0 (x := c) (by omega)
  refine v_aload_n fx 0 dX2_append_0 rfl rfl ?_
  refine v_get fx 0 0 inX2 k105 dX2_append_1 rfl rfl (by decide) rfl rfl rfl ?_
  refine v_aload_n fx 0 dX2_append_4 rfl rfl ?_
  refine v_get fx 0 2 inX2 k107 dX2_append_5 rfl rfl (by decide) rfl rfl rfl ?_
  refine v_iconst fx dX2_append_8 rfl ?_
  refine v_iadd fx (c + 1) dX2_append_9 (by rfl) rfl ?_
  refine v_iald fx 1 dX2_append_10 rfl (by omega) (by omega) rfl ?_
  refine v_top (iI (F (c.toNat + 1))) (LB_fs1 hp0 _ (by omega)) ?_
  refine v_istore_n fx [(2, .int (iI (F (c.toNat + 1)))), (0, .ref h0), (1, .int x)] dX2_append_11 (by decide) rfl rfl ?_
  refine v_iload_n fx 0 dX2_append_12 rfl rfl ?_
  refine v_aload_n fx 1 dX2_append_13 rfl rfl ?_
  refine v_get fx 0 1 inX2 k106 dX2_append_14 rfl rfl (by decide) rfl rfl rfl ?_
  refine v_alen fx 2 0 (n : Int) dX2_append_17 rfl rfl rfl rfl ?_
  refine v_icmp_lt fx 35 dX2_append_18 (by decide) rfl (by omega) (by omega) (fun h_1 => ?_) (fun h_1 => ?_)
  ·
    refine v_aload_n fx 1 dX2_append_35 rfl rfl ?_
    refine v_get fx 0 1 inX2 k106 dX2_append_36 rfl rfl (by decide) rfl rfl rfl ?_
    refine v_iload_n fx 0 dX2_append_39 rfl rfl ?_
    refine v_iload_n fx 2 dX2_append_40 rfl rfl ?_
    obtain ⟨f_2, ef_2⟩ : ∃ f9 : Nat → Int32, upd fi (F (c.toNat + 1)).toNat x = f9 := ⟨_, rfl⟩
    refine v_iast fx 2 f_2 [(h0, ob 2 [.ref h1, .ref it, .int (iI c)]), (h1, aI g 27 fs), (it, aI g n f_2)] dX2_append_41 rfl (by omega) (by omega) ef_2 rfl rfl ?_
    refine v_aload_n fx 1 dX2_append_42 rfl rfl ?_
    refine v_get fx 0 0 inX2 k105 dX2_append_43 rfl rfl (by decide) rfl rfl rfl ?_
    refine v_aload_n fx 1 dX2_append_46 rfl rfl ?_
    refine v_get fx 0 2 inX2 k107 dX2_append_47 rfl rfl (by decide) rfl rfl rfl ?_
    refine v_iconst fx dX2_append_50 rfl ?_
    refine v_iadd fx (c + 1) dX2_append_51 (by rfl) rfl ?_
    refine v_iload_n fx 0 dX2_append_52 rfl rfl ?_
    refine v_iconst fx dX2_append_53 rfl ?_
    refine v_iadd fx ((F (c.toNat + 1)) + 1) dX2_append_54 (by rfl) rfl ?_
    obtain ⟨f_3, ef_3⟩ : ∃ f9 : Nat → Int32, upd fs (c + 1).toNat (iI ((F (c.toNat + 1)) + 1)) = f9 := ⟨_, rfl⟩
    refine v_iast fx 1 f_3 [(h0, ob 2 [.ref h1, .ref it, .int (iI c)]), (h1, aI g 27 f_3), (it, aI g n f_2)] dX2_append_55 rfl (by omega) (by omega) ef_3 rfl rfl ?_
    exact v_vretE fx [(h0, ob 2 [.ref h1, .ref it, .int (iI c)]), (h1, aI g 27 f_3), (it, aI g n f_2)] [0, 1, 2] hr dX2_append_56 rfl rfl ⟨it, n, f_3, f_2, rfl, rfl, (by exact LB_setE (by assumption) hp0 (by omega) (by omega)), (by first | omega | rfl | assumption), (by first | exact updE_keep (f0 := fi) (by assumption) (by omega) (fun _ _ => rfl) | exact updE_keep (f0 := fc) (by assumption) (by omega) (fun j hj => (by assumption : ∀ j, j < n → fc j = fi j) j (by omega))), (by first | exact updE_at (f0 := fi) (by assumption) | exact updE_at (f0 := fc) (by assumption))⟩
  ·
    refine v_aload_n fx 1 dX2_append_21 rfl rfl ?_
    refine v_aload_n fx 1 dX2_append_22 rfl rfl ?_
    refine v_get fx 0 1 inX2 k106 dX2_append_23 rfl rfl (by decide) rfl rfl rfl ?_
    refine v_iconst fx dX2_append_26 rfl ?_
    refine v_iload_n fx 0 dX2_append_27 rfl rfl ?_
    refine v_imul fx (2 * (F (c.toNat + 1))) dX2_append_28 (by rfl) rfl ?_
    refine v_callS (As := [.ref it, .int (iI (2 * (F (c.toNat + 1))))]) (rest := [.ref h0]) fx [2] [0, 1] [(it, aI g n fi)] [(h0, ob 2 [.ref h1, .ref it, .int (iI c)]), (h1, aI g 27 fs)] 2 (c_J7_copyOf_59c91 l g it n fi (2 * (F (c.toNat + 1))) (by first | omega | decide | assumption)) dX2_append_29 k338 k223 k55 k224 ykJ7_copyOf_59c91 rfl rfl rfl rfl rfl (nl rfl) ⟨nl rfl, nl rfl⟩ ⟨(nl rfl), (by show 0 + ((2 * (F (c.toNat + 1))).toNat) ≤ (2 * n); omega)⟩ rfl (fun v9 w9 hu => ?_)
    obtain ⟨hc2, fc, rfl, rfl, u_4, u_5⟩ := hu
    refine v_is (wn := [(h0, ob 2 [.ref h1, .ref it, .int (iI c)]), (h1, aI g 27 fs), (it, aI g n fi), (hc2, aI g ((2 * (F (c.toNat + 1))).toNat) fc)]) (cn := 1) (sn := (2 * (F (c.toNat + 1))).toNat) (sn2 := [.ref hc2, .ref h0]) rfl rfl (Nat.zero_add _) rfl ?_
    refine v_put fx 0 1 [(h0, ob 2 [.ref h1, .ref hc2, .int (iI c)]), (h1, aI g 27 fs), (it, aI g n fi), (hc2, aI g ((2 * (F (c.toNat + 1))).toNat) fc)] inX2 tyX2_ok nmX2 k106 dX2_append_32 rfl rfl (by decide) rfl rfl rfl rfl (nl rfl) rfl rfl ?_
    refine v_aload_n fx 1 dX2_append_35 rfl rfl ?_
    refine v_get fx 0 1 inX2 k106 dX2_append_36 rfl rfl (by decide) rfl rfl rfl ?_
    refine v_iload_n fx 0 dX2_append_39 rfl rfl ?_
    refine v_iload_n fx 2 dX2_append_40 rfl rfl ?_
    obtain ⟨f_6, ef_6⟩ : ∃ f9 : Nat → Int32, upd fc (F (c.toNat + 1)).toNat x = f9 := ⟨_, rfl⟩
    refine v_iast fx 3 f_6 [(h0, ob 2 [.ref h1, .ref hc2, .int (iI c)]), (h1, aI g 27 fs), (it, aI g n fi), (hc2, aI g ((2 * (F (c.toNat + 1))).toNat) f_6)] dX2_append_41 rfl (by omega) (by omega) ef_6 rfl rfl ?_
    refine v_aload_n fx 1 dX2_append_42 rfl rfl ?_
    refine v_get fx 0 0 inX2 k105 dX2_append_43 rfl rfl (by decide) rfl rfl rfl ?_
    refine v_aload_n fx 1 dX2_append_46 rfl rfl ?_
    refine v_get fx 0 2 inX2 k107 dX2_append_47 rfl rfl (by decide) rfl rfl rfl ?_
    refine v_iconst fx dX2_append_50 rfl ?_
    refine v_iadd fx (c + 1) dX2_append_51 (by rfl) rfl ?_
    refine v_iload_n fx 0 dX2_append_52 rfl rfl ?_
    refine v_iconst fx dX2_append_53 rfl ?_
    refine v_iadd fx ((F (c.toNat + 1)) + 1) dX2_append_54 (by rfl) rfl ?_
    obtain ⟨f_7, ef_7⟩ : ∃ f9 : Nat → Int32, upd fs (c + 1).toNat (iI ((F (c.toNat + 1)) + 1)) = f9 := ⟨_, rfl⟩
    refine v_iast fx 1 f_7 [(h0, ob 2 [.ref h1, .ref hc2, .int (iI c)]), (h1, aI g 27 f_7), (it, aI g n fi), (hc2, aI g ((2 * (F (c.toNat + 1))).toNat) f_6)] dX2_append_55 rfl (by omega) (by omega) ef_7 rfl rfl ?_
    exact v_vretE fx [(h0, ob 2 [.ref h1, .ref hc2, .int (iI c)]), (h1, aI g 27 f_7), (hc2, aI g ((2 * (F (c.toNat + 1))).toNat) f_6)] [0, 1, 3] hr dX2_append_56 rfl rfl ⟨hc2, ((2 * (F (c.toNat + 1))).toNat), f_7, f_6, rfl, rfl, (by exact LB_setE (by assumption) hp0 (by omega) (by omega)), (by first | omega | rfl | assumption), (by first | exact updE_keep (f0 := fi) (by assumption) (by omega) (fun _ _ => rfl) | exact updE_keep (f0 := fc) (by assumption) (by omega) (fun j hj => (by assumption : ∀ j, j < n → fc j = fi j) j (by omega))), (by first | exact updE_at (f0 := fi) (by assumption) | exact updE_at (f0 := fc) (by assumption))⟩
theorem dX2_emptyOpen_0 : decode cX2_emptyOpen 0 = .ok (.aload_n 0, 1) := by decide +kernel
theorem dX2_emptyOpen_1 : decode cX2_emptyOpen 1 = .ok (.getfield 11, 3) := by decide +kernel
theorem dX2_emptyOpen_4 : decode cX2_emptyOpen 4 = .ok (.aload_n 0, 1) := by decide +kernel
theorem dX2_emptyOpen_5 : decode cX2_emptyOpen 5 = .ok (.getfield 18, 3) := by decide +kernel
theorem dX2_emptyOpen_8 : decode cX2_emptyOpen 8 = .ok (.iconst 1, 1) := by decide +kernel
theorem dX2_emptyOpen_9 : decode cX2_emptyOpen 9 = .ok (.iadd, 1) := by decide +kernel
theorem dX2_emptyOpen_10 : decode cX2_emptyOpen 10 = .ok (.aload_n 0, 1) := by decide +kernel
theorem dX2_emptyOpen_11 : decode cX2_emptyOpen 11 = .ok (.getfield 11, 3) := by decide +kernel
theorem dX2_emptyOpen_14 : decode cX2_emptyOpen 14 = .ok (.aload_n 0, 1) := by decide +kernel
theorem dX2_emptyOpen_15 : decode cX2_emptyOpen 15 = .ok (.getfield 18, 3) := by decide +kernel
theorem dX2_emptyOpen_18 : decode cX2_emptyOpen 18 = .ok (.iaload, 1) := by decide +kernel
theorem dX2_emptyOpen_19 : decode cX2_emptyOpen 19 = .ok (.iastore, 1) := by decide +kernel
theorem dX2_emptyOpen_20 : decode cX2_emptyOpen 20 = .ok (.return_, 1) := by decide +kernel
abbrev po_c_X2_emptyOpen (g : GG) (h0 : Nat) (h1 : Nat) (it : Nat) (c : Int) (fs : Nat → Int32) : Option Value → va_W → Prop := fun v8 w8 => ∃ s2 : Nat → Int32, v8 = none ∧ w8 = [(h0, ob 2 [.ref h1, .ref it, .int (iI c)]), (h1, aI g 27 s2)] ∧ (s2 = upd fs (c + 1).toNat (fs c.toNat))
set_option maxHeartbeats 4000000 in
set_option maxRecDepth 100000 in
theorem c_X2_emptyOpen (l : Launch) (g : GG) (h0 : Nat) (h1 : Nat) (it : Nat) (c : Int) (fs : Nat → Int32) (hp0 : 0 ≤ c ∧ c ≤ 25) : Ct l g yX2_emptyOpen (wM yX2_emptyOpen cX2_emptyOpen 1 none) (rmD 0 0 0) [.ref h0] [(h0, ob 2 [.ref h1, .ref it, .int (iI c)]), (h1, aI g 27 fs)] (po_c_X2_emptyOpen g h0 h1 it c fs) := by
  refine Ct_of (by decide +kernel) (Nat.le_of_ble_eq_true rfl) ?_
  intro p9 e9 s9 m9 ag9 bl9 mt9 c9 A9 fx hr hnm
  refine v_aload_n fx 0 dX2_emptyOpen_0 rfl rfl ?_
  refine v_get fx 0 0 inX2 k105 dX2_emptyOpen_1 rfl rfl (by decide) rfl rfl rfl ?_
  refine v_aload_n fx 0 dX2_emptyOpen_4 rfl rfl ?_
  refine v_get fx 0 2 inX2 k107 dX2_emptyOpen_5 rfl rfl (by decide) rfl rfl rfl ?_
  refine v_iconst fx dX2_emptyOpen_8 rfl ?_
  refine v_iadd fx (c + 1) dX2_emptyOpen_9 (by rfl) rfl ?_
  refine v_aload_n fx 0 dX2_emptyOpen_10 rfl rfl ?_
  refine v_get fx 0 0 inX2 k105 dX2_emptyOpen_11 rfl rfl (by decide) rfl rfl rfl ?_
  refine v_aload_n fx 0 dX2_emptyOpen_14 rfl rfl ?_
  refine v_get fx 0 2 inX2 k107 dX2_emptyOpen_15 rfl rfl (by decide) rfl rfl rfl ?_
  refine v_iald fx 1 dX2_emptyOpen_18 rfl (by omega) (by omega) rfl ?_
  obtain ⟨f_1, ef_1⟩ : ∃ f9 : Nat → Int32, upd fs (c + 1).toNat (fs (c).toNat) = f9 := ⟨_, rfl⟩
  refine v_iast fx 1 f_1 [(h0, ob 2 [.ref h1, .ref it, .int (iI c)]), (h1, aI g 27 f_1)] dX2_emptyOpen_19 rfl (by omega) (by omega) ef_1 rfl rfl ?_
  exact v_vret fx [(h0, ob 2 [.ref h1, .ref it, .int (iI c)]), (h1, aI g 27 f_1)] [0, 1] hr dX2_emptyOpen_20 rfl rfl (nl rfl) (nl rfl) ⟨f_1, rfl, rfl, (by symm; assumption)⟩
theorem dX2_close_0 : decode cX2_close 0 = .ok (.aload_n 0, 1) := by decide +kernel
theorem dX2_close_1 : decode cX2_close 1 = .ok (.getfield 18, 3) := by decide +kernel
theorem dX2_close_4 : decode cX2_close 4 = .ok (.bipush 25, 2) := by decide +kernel
theorem dX2_close_6 : decode cX2_close 6 = .ok (.if_icmp .ge 17, 3) := by decide +kernel
theorem dX2_close_9 : decode cX2_close 9 = .ok (.aload_n 0, 1) := by decide +kernel
theorem dX2_close_10 : decode cX2_close 10 = .ok (.dup, 1) := by decide +kernel
theorem dX2_close_11 : decode cX2_close 11 = .ok (.getfield 18, 3) := by decide +kernel
theorem dX2_close_14 : decode cX2_close 14 = .ok (.iconst 1, 1) := by decide +kernel
theorem dX2_close_15 : decode cX2_close 15 = .ok (.iadd, 1) := by decide +kernel
theorem dX2_close_16 : decode cX2_close 16 = .ok (.putfield 18, 3) := by decide +kernel
theorem dX2_close_19 : decode cX2_close 19 = .ok (.aload_n 0, 1) := by decide +kernel
theorem dX2_close_20 : decode cX2_close 20 = .ok (.invokevirtual 36, 3) := by decide +kernel
theorem dX2_close_23 : decode cX2_close 23 = .ok (.return_, 1) := by decide +kernel
abbrev po_c_X2_close (g : GG) (h0 : Nat) (h1 : Nat) (it : Nat) (n : Nat) (c : Int) (F : Nat → Int) (fs : Nat → Int32) (fi : Nat → Int32) : Option Value → va_W → Prop := fun v8 w8 => ∃ s2 : Nat → Int32, v8 = none ∧ w8 = [(h0, ob 2 [.ref h1, .ref it, .int (iI (c + 1))]), (h1, aI g 27 s2)] ∧ (s2 = upd fs (c + 1 + 1).toNat (fs (c + 1).toNat))
set_option maxHeartbeats 4000000 in
set_option maxRecDepth 100000 in
theorem c_X2_close (l : Launch) (g : GG) (h0 : Nat) (h1 : Nat) (it : Nat) (n : Nat) (c : Int) (F : Nat → Int) (fs : Nat → Int32) (fi : Nat → Int32) (hp0 : LB c F fs n) (hp1 : c < 25) : Ct l g yX2_close (wM yX2_close cX2_close 1 none) (rmD 1 0 0) [.ref h0] [(h0, ob 2 [.ref h1, .ref it, .int (iI c)]), (h1, aI g 27 fs)] (po_c_X2_close g h0 h1 it n c F fs fi) := by
  refine Ct_of (by decide +kernel) (Nat.le_of_ble_eq_true rfl) ?_
  intro p9 e9 s9 m9 ag9 bl9 mt9 c9 A9 fx hr hnm
  have hc := LB_c hp0
  have hn := LB_n hp0
  refine v_aload_n fx 0 dX2_close_0 rfl rfl ?_
  refine v_get fx 0 2 inX2 k107 dX2_close_1 rfl rfl (by decide) rfl rfl rfl ?_
  refine v_bipush fx dX2_close_4 (by decide +kernel) rfl ?_
  refine v_icmp_ge fx 23 dX2_close_6 (by decide) rfl (by omega) (by omega) (fun h0 => absurd h0 (by omega)) (fun h_1 => ?_)
  refine v_aload_n fx 0 dX2_close_9 rfl rfl ?_
  refine v_dup fx dX2_close_10 rfl rfl ?_
  refine v_get fx 0 2 inX2 k107 dX2_close_11 rfl rfl (by decide) rfl rfl rfl ?_
  refine v_iconst fx dX2_close_14 rfl ?_
  refine v_iadd fx (c + 1) dX2_close_15 (by rfl) rfl ?_
  refine v_put fx 0 2 [(h0, ob 2 [.ref h1, .ref it, .int (iI (c + 1))]), (h1, aI g 27 fs)] inX2 tyX2_ok nmX2 k107 dX2_close_16 rfl rfl (by decide) rfl rfl rfl rfl (nl rfl) rfl rfl ?_
  refine v_aload_n fx 0 dX2_close_19 rfl rfl ?_
  refine v_callV (As := []) (rest := []) fx [0, 1] [] [(h0, ob 2 [.ref h1, .ref it, .int (iI (c + 1))]), (h1, aI g 27 fs)] [] 0 0 (c_X2_emptyOpen l g h0 h1 it (c + 1) fs (by first | omega | decide | assumption)) dX2_close_20 k343 k344 k345 k49 k346 ykX2_emptyOpen rfl rfl rfl rfl rfl rfl rfl rfl (nl rfl) ⟨nl rfl, nl rfl⟩ ⟨(nl rfl), (nl rfl)⟩ rfl (fun v9 w9 hu => ?_)
  obtain ⟨s2_2, rfl, rfl, u_3⟩ := hu
  refine v_is (wn := [(h0, ob 2 [.ref h1, .ref it, .int (iI (c + 1))]), (h1, aI g 27 s2_2)]) (cn := 0) (sn := 0) (sn2 := []) rfl rfl rfl rfl ?_
  exact v_vret fx [(h0, ob 2 [.ref h1, .ref it, .int (iI (c + 1))]), (h1, aI g 27 s2_2)] [0, 1] hr dX2_close_23 rfl rfl (nl rfl) (nl rfl) ⟨s2_2, rfl, rfl, (by assumption)⟩
theorem dX2_removeAll_0 : decode cX2_removeAll 0 = .ok (.aload_n 0, 1) := by decide +kernel
theorem dX2_removeAll_1 : decode cX2_removeAll 1 = .ok (.iconst 0, 1) := by decide +kernel
theorem dX2_removeAll_2 : decode cX2_removeAll 2 = .ok (.putfield 18, 3) := by decide +kernel
theorem dX2_removeAll_5 : decode cX2_removeAll 5 = .ok (.aload_n 0, 1) := by decide +kernel
theorem dX2_removeAll_6 : decode cX2_removeAll 6 = .ok (.getfield 11, 3) := by decide +kernel
theorem dX2_removeAll_9 : decode cX2_removeAll 9 = .ok (.iconst 1, 1) := by decide +kernel
theorem dX2_removeAll_10 : decode cX2_removeAll 10 = .ok (.iconst 0, 1) := by decide +kernel
theorem dX2_removeAll_11 : decode cX2_removeAll 11 = .ok (.iastore, 1) := by decide +kernel
theorem dX2_removeAll_12 : decode cX2_removeAll 12 = .ok (.return_, 1) := by decide +kernel
abbrev po_c_X2_removeAll (g : GG) (h0 : Nat) (h1 : Nat) (it : Nat) (n : Nat) (c : Int) (F : Nat → Int) (fs : Nat → Int32) (fi : Nat → Int32) : Option Value → va_W → Prop := fun v8 w8 => ∃ s2 : Nat → Int32, v8 = none ∧ w8 = [(h0, ob 2 [.ref h1, .ref it, .int (iI 0)]), (h1, aI g 27 s2)] ∧ (LB 0 (fU F 1 0) s2 n)
set_option maxHeartbeats 4000000 in
set_option maxRecDepth 100000 in
theorem c_X2_removeAll (l : Launch) (g : GG) (h0 : Nat) (h1 : Nat) (it : Nat) (n : Nat) (c : Int) (F : Nat → Int) (fs : Nat → Int32) (fi : Nat → Int32) (hp0 : LB c F fs n) : Ct l g yX2_removeAll (wM yX2_removeAll cX2_removeAll 1 none) (rmD 0 0 0) [.ref h0] [(h0, ob 2 [.ref h1, .ref it, .int (iI c)]), (h1, aI g 27 fs)] (po_c_X2_removeAll g h0 h1 it n c F fs fi) := by
  refine Ct_of (by decide +kernel) (Nat.le_of_ble_eq_true rfl) ?_
  intro p9 e9 s9 m9 ag9 bl9 mt9 c9 A9 fx hr hnm
  have hc := LB_c hp0
  have hn := LB_n hp0
  refine v_aload_n fx 0 dX2_removeAll_0 rfl rfl ?_
  refine v_iconst fx dX2_removeAll_1 rfl ?_
  refine v_put fx 0 2 [(h0, ob 2 [.ref h1, .ref it, .int (iI 0)]), (h1, aI g 27 fs)] inX2 tyX2_ok nmX2 k107 dX2_removeAll_2 rfl rfl (by decide) rfl rfl rfl rfl (nl rfl) rfl rfl ?_
  refine v_aload_n fx 0 dX2_removeAll_5 rfl rfl ?_
  refine v_get fx 0 0 inX2 k105 dX2_removeAll_6 rfl rfl (by decide) rfl rfl rfl ?_
  refine v_iconst fx dX2_removeAll_9 rfl ?_
  refine v_iconst fx dX2_removeAll_10 rfl ?_
  obtain ⟨f_1, ef_1⟩ : ∃ f9 : Nat → Int32, upd fs (1 : Int).toNat (iI 0) = f9 := ⟨_, rfl⟩
  refine v_iast fx 1 f_1 [(h0, ob 2 [.ref h1, .ref it, .int (iI 0)]), (h1, aI g 27 f_1)] dX2_removeAll_11 rfl (by omega) (by omega) ef_1 rfl rfl ?_
  exact v_vret fx [(h0, ob 2 [.ref h1, .ref it, .int (iI 0)]), (h1, aI g 27 f_1)] [0, 1] hr dX2_removeAll_12 rfl rfl (nl rfl) (nl rfl) ⟨f_1, rfl, rfl, (by exact LB_0E (by assumption) hp0)⟩
theorem dX2_last_0 : decode cX2_last 0 = .ok (.aload_n 0, 1) := by decide +kernel
theorem dX2_last_1 : decode cX2_last 1 = .ok (.aload_n 0, 1) := by decide +kernel
theorem dX2_last_2 : decode cX2_last 2 = .ok (.getfield 18, 3) := by decide +kernel
theorem dX2_last_5 : decode cX2_last 5 = .ok (.aload_n 0, 1) := by decide +kernel
theorem dX2_last_6 : decode cX2_last 6 = .ok (.getfield 11, 3) := by decide +kernel
theorem dX2_last_9 : decode cX2_last 9 = .ok (.aload_n 0, 1) := by decide +kernel
theorem dX2_last_10 : decode cX2_last 10 = .ok (.getfield 18, 3) := by decide +kernel
theorem dX2_last_13 : decode cX2_last 13 = .ok (.iconst 1, 1) := by decide +kernel
theorem dX2_last_14 : decode cX2_last 14 = .ok (.iadd, 1) := by decide +kernel
theorem dX2_last_15 : decode cX2_last 15 = .ok (.iaload, 1) := by decide +kernel
theorem dX2_last_16 : decode cX2_last 16 = .ok (.aload_n 0, 1) := by decide +kernel
theorem dX2_last_17 : decode cX2_last 17 = .ok (.getfield 11, 3) := by decide +kernel
theorem dX2_last_20 : decode cX2_last 20 = .ok (.aload_n 0, 1) := by decide +kernel
theorem dX2_last_21 : decode cX2_last 21 = .ok (.getfield 18, 3) := by decide +kernel
theorem dX2_last_24 : decode cX2_last 24 = .ok (.iaload, 1) := by decide +kernel
theorem dX2_last_25 : decode cX2_last 25 = .ok (.isub, 1) := by decide +kernel
theorem dX2_last_26 : decode cX2_last 26 = .ok (.iconst 1, 1) := by decide +kernel
theorem dX2_last_27 : decode cX2_last 27 = .ok (.isub, 1) := by decide +kernel
theorem dX2_last_28 : decode cX2_last 28 = .ok (.iconst (-1), 1) := by decide +kernel
theorem dX2_last_29 : decode cX2_last 29 = .ok (.invokevirtual 28, 3) := by decide +kernel
theorem dX2_last_32 : decode cX2_last 32 = .ok (.ireturn, 1) := by decide +kernel
abbrev po_c_X2_last (g : GG) (h0 : Nat) (h1 : Nat) (it : Nat) (n : Nat) (c : Int) (F : Nat → Int) (fs : Nat → Int32) (fi : Nat → Int32) : Option Value → va_W → Prop := fun v8 w8 => ∃ r : Int, v8 = some (.int (iI r)) ∧ w8 = [(h0, ob 2 [.ref h1, .ref it, .int (iI c)]), (h1, aI g 27 fs), (it, aI g n fi)] ∧ ((F c.toNat < F (c.toNat + 1) ∧ r = vl fi (F (c.toNat + 1) - 1)) ∨ (F c.toNat = F (c.toNat + 1) ∧ r = -1)) ∧ (-2147483648 ≤ r ∧ r < 2147483648)
set_option maxHeartbeats 4000000 in
set_option maxRecDepth 100000 in
theorem c_X2_last (l : Launch) (g : GG) (h0 : Nat) (h1 : Nat) (it : Nat) (n : Nat) (c : Int) (F : Nat → Int) (fs : Nat → Int32) (fi : Nat → Int32) (hp0 : LB c F fs n) : Ct l g yX2_last (wM yX2_last cX2_last 1 (some .int)) (rmD 1 0 0) [.ref h0] [(h0, ob 2 [.ref h1, .ref it, .int (iI c)]), (h1, aI g 27 fs), (it, aI g n fi)] (po_c_X2_last g h0 h1 it n c F fs fi) := by
  refine Ct_of (by decide +kernel) (Nat.le_of_ble_eq_true rfl) ?_
  intro p9 e9 s9 m9 ag9 bl9 mt9 c9 A9 fx hr hnm
  have hc := LB_c hp0
  have hn := LB_n hp0
  have hlen := LB_len hp0 (x := c) (by omega)
  refine v_aload_n fx 0 dX2_last_0 rfl rfl ?_
  refine v_aload_n fx 0 dX2_last_1 rfl rfl ?_
  refine v_get fx 0 2 inX2 k107 dX2_last_2 rfl rfl (by decide) rfl rfl rfl ?_
  refine v_aload_n fx 0 dX2_last_5 rfl rfl ?_
  refine v_get fx 0 0 inX2 k105 dX2_last_6 rfl rfl (by decide) rfl rfl rfl ?_
  refine v_aload_n fx 0 dX2_last_9 rfl rfl ?_
  refine v_get fx 0 2 inX2 k107 dX2_last_10 rfl rfl (by decide) rfl rfl rfl ?_
  refine v_iconst fx dX2_last_13 rfl ?_
  refine v_iadd fx (c + 1) dX2_last_14 (by rfl) rfl ?_
  refine v_iald fx 1 dX2_last_15 rfl (by omega) (by omega) rfl ?_
  refine v_top (iI (F (c.toNat + 1))) (LB_fs1 hp0 _ (by omega)) ?_
  refine v_aload_n fx 0 dX2_last_16 rfl rfl ?_
  refine v_get fx 0 0 inX2 k105 dX2_last_17 rfl rfl (by decide) rfl rfl rfl ?_
  refine v_aload_n fx 0 dX2_last_20 rfl rfl ?_
  refine v_get fx 0 2 inX2 k107 dX2_last_21 rfl rfl (by decide) rfl rfl rfl ?_
  refine v_iald fx 1 dX2_last_24 rfl (by omega) (by omega) rfl ?_
  refine v_top (iI (F c.toNat)) (LB_fs hp0 _) ?_
  refine v_isub fx ((F (c.toNat + 1)) - (F c.toNat)) dX2_last_25 (by rfl) rfl ?_
  refine v_iconst fx dX2_last_26 rfl ?_
  refine v_isub fx (((F (c.toNat + 1)) - (F c.toNat)) - 1) dX2_last_27 (by rfl) rfl ?_
  refine v_iconst fx dX2_last_28 rfl ?_
  refine v_callV (As := [.int (iI c), .int (iI (((F (c.toNat + 1)) - (F c.toNat)) - 1)), .int (iI (-1))]) (rest := []) fx [0, 1, 2] [] [(h0, ob 2 [.ref h1, .ref it, .int (iI c)]), (h1, aI g 27 fs), (it, aI g n fi)] [] 3 0 (c_X2_item l g h0 h1 it n c F fs fi c (((F (c.toNat + 1)) - (F c.toNat)) - 1) (-1) (by first | omega | decide | assumption) (by first | omega | decide | assumption) (by first | omega | decide | assumption) (by first | omega | decide | assumption)) dX2_last_29 k856 k686 k687 k49 k688 ykX2_item rfl rfl rfl rfl rfl rfl rfl rfl (nl rfl) ⟨nl rfl, nl rfl⟩ ⟨(nl rfl), (nl rfl)⟩ rfl (fun v9 w9 hu => ?_)
  obtain ⟨r_1, rfl, rfl, u_2, u_3⟩ := hu
  refine v_is (wn := [(h0, ob 2 [.ref h1, .ref it, .int (iI c)]), (h1, aI g 27 fs), (it, aI g n fi)]) (cn := 0) (sn := 0) (sn2 := [.int (iI r_1)]) rfl rfl rfl rfl ?_
  have hvl : F c.toNat + (F (c.toNat + 1) - F c.toNat - 1) = F (c.toNat + 1) - 1 := by omega
  have hor := itm_or (F := F) (fi := fi) (c := c) (d := -1) (x := c) (k := F (c.toNat + 1) - F c.toNat - 1)
  rw [hvl] at hor
  exact v_iret fx [(h0, ob 2 [.ref h1, .ref it, .int (iI c)]), (h1, aI g 27 fs), (it, aI g n fi)] [0, 1, 2] hr dX2_last_32 rfl rfl (nl rfl) (nl rfl) ⟨r_1, rfl, rfl, (by omega), (by first | omega | rfl | assumption)⟩
theorem dX2_dropLast_0 : decode cX2_dropLast 0 = .ok (.aload_n 0, 1) := by decide +kernel
theorem dX2_dropLast_1 : decode cX2_dropLast 1 = .ok (.aload_n 0, 1) := by decide +kernel
theorem dX2_dropLast_2 : decode cX2_dropLast 2 = .ok (.getfield 18, 3) := by decide +kernel
theorem dX2_dropLast_5 : decode cX2_dropLast 5 = .ok (.invokevirtual 32, 3) := by decide +kernel
theorem dX2_dropLast_8 : decode cX2_dropLast 8 = .ok (.ifCond .le 18, 3) := by decide +kernel
theorem dX2_dropLast_11 : decode cX2_dropLast 11 = .ok (.aload_n 0, 1) := by decide +kernel
theorem dX2_dropLast_12 : decode cX2_dropLast 12 = .ok (.getfield 11, 3) := by decide +kernel
theorem dX2_dropLast_15 : decode cX2_dropLast 15 = .ok (.aload_n 0, 1) := by decide +kernel
theorem dX2_dropLast_16 : decode cX2_dropLast 16 = .ok (.getfield 18, 3) := by decide +kernel
theorem dX2_dropLast_19 : decode cX2_dropLast 19 = .ok (.iconst 1, 1) := by decide +kernel
theorem dX2_dropLast_20 : decode cX2_dropLast 20 = .ok (.iadd, 1) := by decide +kernel
theorem dX2_dropLast_21 : decode cX2_dropLast 21 = .ok (.dup2, 1) := by decide +kernel
theorem dX2_dropLast_22 : decode cX2_dropLast 22 = .ok (.iaload, 1) := by decide +kernel
theorem dX2_dropLast_23 : decode cX2_dropLast 23 = .ok (.iconst 1, 1) := by decide +kernel
theorem dX2_dropLast_24 : decode cX2_dropLast 24 = .ok (.isub, 1) := by decide +kernel
theorem dX2_dropLast_25 : decode cX2_dropLast 25 = .ok (.iastore, 1) := by decide +kernel
theorem dX2_dropLast_26 : decode cX2_dropLast 26 = .ok (.return_, 1) := by decide +kernel
abbrev po_c_X2_dropLast (g : GG) (h0 : Nat) (h1 : Nat) (it : Nat) (n : Nat) (c : Int) (F : Nat → Int) (fs : Nat → Int32) (fi : Nat → Int32) : Option Value → va_W → Prop := fun v8 w8 => ∃ s2 : Nat → Int32, v8 = none ∧ w8 = [(h0, ob 2 [.ref h1, .ref it, .int (iI c)]), (h1, aI g 27 s2)] ∧ ((F c.toNat < F (c.toNat + 1) ∧ LB c (fU F (c.toNat + 1) (F (c.toNat + 1) - 1)) s2 n) ∨ (F c.toNat = F (c.toNat + 1) ∧ s2 = fs))
set_option maxHeartbeats 4000000 in
set_option maxRecDepth 100000 in
theorem c_X2_dropLast (l : Launch) (g : GG) (h0 : Nat) (h1 : Nat) (it : Nat) (n : Nat) (c : Int) (F : Nat → Int) (fs : Nat → Int32) (fi : Nat → Int32) (hp0 : LB c F fs n) : Ct l g yX2_dropLast (wM yX2_dropLast cX2_dropLast 1 none) (rmD 1 0 0) [.ref h0] [(h0, ob 2 [.ref h1, .ref it, .int (iI c)]), (h1, aI g 27 fs)] (po_c_X2_dropLast g h0 h1 it n c F fs fi) := by
  refine Ct_of (by decide +kernel) (Nat.le_of_ble_eq_true rfl) ?_
  intro p9 e9 s9 m9 ag9 bl9 mt9 c9 A9 fx hr hnm
  have hc := LB_c hp0
  have hn := LB_n hp0
  have hlen := LB_len hp0 (x := c) (by omega)
  refine v_aload_n fx 0 dX2_dropLast_0 rfl rfl ?_
  refine v_aload_n fx 0 dX2_dropLast_1 rfl rfl ?_
  refine v_get fx 0 2 inX2 k107 dX2_dropLast_2 rfl rfl (by decide) rfl rfl rfl ?_
  refine v_callV (As := [.int (iI c)]) (rest := []) fx [0, 1] [] [(h0, ob 2 [.ref h1, .ref it, .int (iI c)]), (h1, aI g 27 fs)] [] 1 0 (c_X2_length l g h0 h1 it n c F fs fi c (by first | omega | decide | assumption) (by first | omega | decide | assumption)) dX2_dropLast_5 k861 k719 k720 k49 k721 ykX2_length rfl rfl rfl rfl rfl rfl rfl rfl (nl rfl) ⟨nl rfl, nl rfl⟩ ⟨(nl rfl), (nl rfl)⟩ rfl (fun v9 w9 hu => ?_)
  obtain ⟨r_1, rfl, rfl, u_2, u_3⟩ := hu
  refine v_is (wn := [(h0, ob 2 [.ref h1, .ref it, .int (iI c)]), (h1, aI g 27 fs)]) (cn := 0) (sn := 0) (sn2 := [.int (iI r_1)]) rfl rfl rfl rfl ?_
  refine v_if_le fx 26 dX2_dropLast_8 (by decide) rfl (by omega) (fun h_4 => ?_) (fun h_4 => ?_)
  ·
    exact v_vret fx [(h0, ob 2 [.ref h1, .ref it, .int (iI c)]), (h1, aI g 27 fs)] [0, 1] hr dX2_dropLast_26 rfl rfl (nl rfl) (nl rfl) ⟨fs, rfl, rfl, (by first | exact Or.inr ⟨by omega, rfl⟩ | exact Or.inl ⟨by omega, LB_setE (by assumption) hp0 (by omega) (by omega)⟩)⟩
  ·
    refine v_aload_n fx 0 dX2_dropLast_11 rfl rfl ?_
    refine v_get fx 0 0 inX2 k105 dX2_dropLast_12 rfl rfl (by decide) rfl rfl rfl ?_
    refine v_aload_n fx 0 dX2_dropLast_15 rfl rfl ?_
    refine v_get fx 0 2 inX2 k107 dX2_dropLast_16 rfl rfl (by decide) rfl rfl rfl ?_
    refine v_iconst fx dX2_dropLast_19 rfl ?_
    refine v_iadd fx (c + 1) dX2_dropLast_20 (by rfl) rfl ?_
    refine v_dup2 fx dX2_dropLast_21 rfl rfl rfl ?_
    refine v_iald fx 1 dX2_dropLast_22 rfl (by omega) (by omega) rfl ?_
    refine v_top (iI (F (c.toNat + 1))) (LB_fs1 hp0 _ (by omega)) ?_
    refine v_iconst fx dX2_dropLast_23 rfl ?_
    refine v_isub fx ((F (c.toNat + 1)) - 1) dX2_dropLast_24 (by rfl) rfl ?_
    obtain ⟨f_5, ef_5⟩ : ∃ f9 : Nat → Int32, upd fs (c + 1).toNat (iI ((F (c.toNat + 1)) - 1)) = f9 := ⟨_, rfl⟩
    refine v_iast fx 1 f_5 [(h0, ob 2 [.ref h1, .ref it, .int (iI c)]), (h1, aI g 27 f_5)] dX2_dropLast_25 rfl (by omega) (by omega) ef_5 rfl rfl ?_
    exact v_vret fx [(h0, ob 2 [.ref h1, .ref it, .int (iI c)]), (h1, aI g 27 f_5)] [0, 1] hr dX2_dropLast_26 rfl rfl (nl rfl) (nl rfl) ⟨f_5, rfl, rfl, (by first | exact Or.inr ⟨by omega, rfl⟩ | exact Or.inl ⟨by omega, LB_setE (by assumption) hp0 (by omega) (by omega)⟩)⟩
