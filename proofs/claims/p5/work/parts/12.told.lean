/-! HOW FAR A ROW IS TOLD; THE WRITER -/
theorem iI_div {a : Int} (h : 0 ≤ a ∧ a < 2147483648) (d : Nat) (h0 : 0 < d) (hd : d < 2147483648) : iI a / iI (d : Int) = iI (a / (d : Int)) := by
  obtain ⟨n, rfl⟩ := Int.eq_ofNat_of_zero_le h.1
  have := pk_div (a := n) (d := d) (by omega) h0 (by omega)
  rw [iI_nI, iI_nI, iI_nI] at this
  rw [show ((n : Nat) : Int) / ((d : Nat) : Int) = ((n / d : Nat) : Int) from rfl]
  exact this
theorem iI_rem {a : Int} (h : 0 ≤ a ∧ a < 2147483648) (d : Nat) (h0 : 0 < d) (hd : d < 2147483648) : iI a - iI a / iI (d : Int) * iI (d : Int) = iI (a % (d : Int)) := by
  obtain ⟨n, rfl⟩ := Int.eq_ofNat_of_zero_le h.1
  have := pk_rem (a := n) (d := d) (by omega) h0 (by omega)
  rw [iI_nI, iI_nI, iI_nI] at this
  rw [show ((n : Nat) : Int) % ((d : Nat) : Int) = ((n % d : Nat) : Int) from rfl]
  exact this
/-- the changes above from number nx on are behind a0 -/
def TI (F : Nat → Int) (fi : Nat → Int32) (ab nx a0 : Int) : Prop := ∀ i : Int, 0 ≤ ab → F ab.toNat + nx ≤ i → i < F (ab.toNat + 1) → a0 < vl fi i
theorem TI_end {F : Nat → Int} {fi : Nat → Int32} {ab nx a0 : Int} (h : 0 ≤ ab → F (ab.toNat + 1) - F ab.toNat ≤ nx) : TI F fi ab nx a0 := fun i h1 h2 h3 => by have := h h1; omega
theorem TI_at {F : Nat → Int} {fi : Nat → Int32} {ab nx a0 w : Int} (h : inc fi (F ab.toNat) (F (ab.toNat + 1)) w) (h0 : 0 ≤ nx) (hv : a0 < vl fi (F ab.toNat + nx)) : TI F fi ab nx a0 := by
  intro i h1 h2 h3
  by_cases q : i = F ab.toNat + nx
  · rw [q]; exact hv
  · have := (h i (by omega) h3).2 (F ab.toNat + nx) (by omega) (by omega)
    omega
theorem RI_at {w c : Int} {F : Nat → Int} {fi : Nat → Int32} (h : RI w c F fi) {x : Int} (hx : 0 ≤ x ∧ x < c) : inc fi (F x.toNat) (F (x.toNat + 1)) w := h x.toNat (by omega)
def nb1 (nx bk : Int) : Int := if (nx % 2 = 0 ∧ bk = 1) ∨ (nx % 2 ≠ 0 ∧ bk = 0) then nx + 1 else nx
theorem nb1_e {nx bk q : Int} (h : ((nx % 2 = 0 ∧ bk = 1) ∨ (nx % 2 ≠ 0 ∧ bk = 0)) ∧ q = nx + 1 ∨ ¬ ((nx % 2 = 0 ∧ bk = 1) ∨ (nx % 2 ≠ 0 ∧ bk = 0)) ∧ q = nx) : q = nb1 nx bk := by
  unfold nb1
  rcases h with ⟨h1, h2⟩ | ⟨h1, h2⟩
  · rw [if_pos h1]; exact h2
  · rw [if_neg h1]; exact h2
theorem nb1_b (nx bk : Int) : nx ≤ nb1 nx bk ∧ nb1 nx bk ≤ nx + 1 := by
  unfold nb1
  by_cases h : (nx % 2 = 0 ∧ bk = 1) ∨ (nx % 2 ≠ 0 ∧ bk = 0)
  · rw [if_pos h]; omega
  · rw [if_neg h]; omega
theorem itm_b {F : Nat → Int} {fi : Nat → Int32} {w c ab nx a0 k : Int} (hR : RI w c F fi) (hab : -1 ≤ ab ∧ ab < c) (hT : TI F fi ab nx a0) (hk : nx ≤ k) (h0 : 0 ≤ nx) (hw : 0 ≤ w) : (0 ≤ itm F fi c w ab k ∧ itm F fi c w ab k ≤ w) ∧ (a0 < itm F fi c w ab k ∨ itm F fi c w ab k = w) := by
  rcases itm_or (F := F) (fi := fi) (c := c) (d := w) (x := ab) (k := k) with ⟨g1, g2, g3, g4, g5⟩ | ⟨g1, g2⟩
  · have e2 := (RI_at hR (x := ab) (by omega) (F ab.toNat + k) (by omega) (by omega)).1
    have e3 := hT (F ab.toNat + k) g1 (by omega) (by omega)
    rw [g5]; omega
  · rw [g2]; omega
/-- a code of the tables: how long it is -/
def tabOk (l : List Int32) (b : Int) : Bool := (List.range 91).all fun n => decide (1 ≤ (l.getD n 0).toInt ∧ (l.getD n 0).toInt < 16384 ∧ (n = 0 → (clen (l.getD n 0).toInt : Int) ≤ 10) ∧ (1 ≤ n → n < 64 → (clen (l.getD n 0).toInt : Int) ≤ 7 * n - 1 - b))
theorem tab_w : tabOk gT0 0 = true := by decide +kernel
theorem tab_b : tabOk gT1 1 = true := by decide +kernel
theorem tab_at {l : List Int32} {b : Int} (h : tabOk l b = true) {x z : Int} (hx : 0 ≤ x ∧ x < 91) (e : l.getD x.toNat 0 = iI z) (hz : -2147483648 ≤ z ∧ z < 2147483648) : (1 ≤ z ∧ z < 16384) ∧ (x = 0 → (clen z : Int) ≤ 10) ∧ (1 ≤ x → x < 64 → (clen z : Int) ≤ 7 * x - 1 - b) := by
  have h1 := of_decide_eq_true (List.all_eq_true.mp h x.toNat (List.mem_range.mpr (by omega)))
  rw [e, iI_toInt hz] at h1
  obtain ⟨a1, a2, a3, a4⟩ := h1
  refine ⟨⟨a1, a2⟩, fun h => a3 (by omega), fun h2 h3 => ?_⟩
  have := a4 (by omega) (by omega)
  omega
theorem tab_l : ((List.range 13).all fun n => decide (1 ≤ (gT2.getD n 0).toInt ∧ (gT2.getD n 0).toInt < 16384)) = true := by decide +kernel
theorem tab_m : ((List.range 10).all fun n => decide (1 ≤ (gT3.getD n 0).toInt ∧ (gT3.getD n 0).toInt < 16384 ∧ clen (gT3.getD n 0).toInt ≤ 7 ∧ (n = 0 → clen (gT3.getD n 0).toInt = 4) ∧ (n = 1 → clen (gT3.getD n 0).toInt = 3))) = true := by decide +kernel
theorem tabl_at {x z : Int} (hx : 0 ≤ x ∧ x < 13) (e : gT2.getD x.toNat 0 = iI z) (hz : -2147483648 ≤ z ∧ z < 2147483648) : 1 ≤ z ∧ z < 16384 := by
  have h1 := of_decide_eq_true (List.all_eq_true.mp tab_l x.toNat (List.mem_range.mpr (by omega)))
  rw [e, iI_toInt hz] at h1
  exact h1
theorem tabm_at {x z : Int} (hx : 0 ≤ x ∧ x < 10) (e : gT3.getD x.toNat 0 = iI z) (hz : -2147483648 ≤ z ∧ z < 2147483648) : (1 ≤ z ∧ z < 16384) ∧ (clen z : Int) ≤ 7 ∧ (x = 0 → (clen z : Int) = 4) ∧ (x = 1 → (clen z : Int) = 3) := by
  have h1 := of_decide_eq_true (List.all_eq_true.mp tab_m x.toNat (List.mem_range.mpr (by omega)))
  rw [e, iI_toInt hz] at h1
  obtain ⟨a1, a2, a3, a4, a5⟩ := h1
  exact ⟨⟨a1, a2⟩, by omega, fun h => by have := a4 (by omega); omega, fun h => by have := a5 (by omega); omega⟩
def rbB (x b : Int) : Int := if x = 0 then 10 else if x < 64 then 7 * x - 1 - b else 13
theorem rbB_lt {x b : Int} (h : 0 ≤ x ∧ x < 64) : (x = 0 ∧ rbB x b = 10) ∨ (1 ≤ x ∧ rbB x b = 7 * x - 1 - b) := by
  unfold rbB
  by_cases q : x = 0
  · rw [if_pos q]; exact Or.inl ⟨q, rfl⟩
  · rw [if_neg q, if_pos h.2]; exact Or.inr ⟨by omega, rfl⟩
theorem rbB_of {x b k : Int} (h0 : 0 ≤ x) (h : (x = 0 → k ≤ 10) ∧ (1 ≤ x → x < 64 → k ≤ 7 * x - 1 - b)) (h3 : k ≤ 13) : k ≤ rbB x b := by
  unfold rbB
  by_cases q : x = 0
  · rw [if_pos q]; exact h.1 q
  · rw [if_neg q]
    by_cases q2 : x < 64
    · rw [if_pos q2]; exact h.2 (by omega) q2
    · rw [if_neg q2]; exact h3
theorem clen13 {x : Int} (h : 1 ≤ x ∧ x < 16384) : clen x ≤ 13 := by
  unfold clen
  exact Nat.le_of_lt_succ ((Nat.log2_lt (by omega)).mpr (by omega))
theorem dX5_begin_0 : decode cX5_begin 0 = .ok (.aload_n 0, 1) := by decide +kernel
theorem dX5_begin_1 : decode cX5_begin 1 = .ok (.iload_n 1, 1) := by decide +kernel
theorem dX5_begin_2 : decode cX5_begin 2 = .ok (.iconst 1, 1) := by decide +kernel
theorem dX5_begin_3 : decode cX5_begin 3 = .ok (.isub, 1) := by decide +kernel
theorem dX5_begin_4 : decode cX5_begin 4 = .ok (.putfield 17, 3) := by decide +kernel
theorem dX5_begin_7 : decode cX5_begin 7 = .ok (.aload_n 0, 1) := by decide +kernel
theorem dX5_begin_8 : decode cX5_begin 8 = .ok (.iconst 0, 1) := by decide +kernel
theorem dX5_begin_9 : decode cX5_begin 9 = .ok (.putfield 20, 3) := by decide +kernel
theorem dX5_begin_12 : decode cX5_begin 12 = .ok (.aload_n 0, 1) := by decide +kernel
theorem dX5_begin_13 : decode cX5_begin 13 = .ok (.iconst (-1), 1) := by decide +kernel
theorem dX5_begin_14 : decode cX5_begin 14 = .ok (.putfield 23, 3) := by decide +kernel
theorem dX5_begin_17 : decode cX5_begin 17 = .ok (.aload_n 0, 1) := by decide +kernel
theorem dX5_begin_18 : decode cX5_begin 18 = .ok (.iconst 0, 1) := by decide +kernel
theorem dX5_begin_19 : decode cX5_begin 19 = .ok (.putfield 26, 3) := by decide +kernel
theorem dX5_begin_22 : decode cX5_begin 22 = .ok (.return_, 1) := by decide +kernel
abbrev po_c_X5_begin (g : GG) (h0 : Nat) (r : Nat) (w : Int) (ab : Int) (nx : Int) (a0 : Int) (bk : Int) (x : Int) : Option Value → va_W → Prop := fun v8 w8 => v8 = none ∧ w8 = [(h0, ob 5 [.ref r, .int (iI w), .int (iI (x - 1)), .int (iI 0), .int (iI (-1)), .int (iI 0)])]
set_option maxHeartbeats 4000000 in
set_option maxRecDepth 100000 in
theorem c_X5_begin (l : Launch) (g : GG) (h0 : Nat) (r : Nat) (w : Int) (ab : Int) (nx : Int) (a0 : Int) (bk : Int) (x : Int) : Ct l g yX5_begin (wM yX5_begin cX5_begin 2 none) (rmD 0 0 0) [.ref h0, .int (iI x)] [(h0, ob 5 [.ref r, .int (iI w), .int (iI ab), .int (iI nx), .int (iI a0), .int (iI bk)])] (po_c_X5_begin g h0 r w ab nx a0 bk x) := by
  refine Ct_of (by decide +kernel) (Nat.le_of_ble_eq_true rfl) ?_
  intro p9 e9 s9 m9 ag9 bl9 mt9 c9 A9 fx hr hnm
  refine v_aload_n fx 0 dX5_begin_0 rfl rfl ?_
  refine v_iload_n fx 1 dX5_begin_1 rfl rfl ?_
  refine v_iconst fx dX5_begin_2 rfl ?_
  refine v_isub fx (x - 1) dX5_begin_3 (by rfl) rfl ?_
  refine v_put fx 0 2 [(h0, ob 5 [.ref r, .int (iI w), .int (iI (x - 1)), .int (iI nx), .int (iI a0), .int (iI bk)])] inX5 tyX5_ok nmX5 k149 dX5_begin_4 rfl rfl (by decide) rfl rfl rfl rfl (nl rfl) rfl rfl ?_
  refine v_aload_n fx 0 dX5_begin_7 rfl rfl ?_
  refine v_iconst fx dX5_begin_8 rfl ?_
  refine v_put fx 0 3 [(h0, ob 5 [.ref r, .int (iI w), .int (iI (x - 1)), .int (iI 0), .int (iI a0), .int (iI bk)])] inX5 tyX5_ok nmX5 k150 dX5_begin_9 rfl rfl (by decide) rfl rfl rfl rfl (nl rfl) rfl rfl ?_
  refine v_aload_n fx 0 dX5_begin_12 rfl rfl ?_
  refine v_iconst fx dX5_begin_13 rfl ?_
  refine v_put fx 0 4 [(h0, ob 5 [.ref r, .int (iI w), .int (iI (x - 1)), .int (iI 0), .int (iI (-1)), .int (iI bk)])] inX5 tyX5_ok nmX5 k151 dX5_begin_14 rfl rfl (by decide) rfl rfl rfl rfl (nl rfl) rfl rfl ?_
  refine v_aload_n fx 0 dX5_begin_17 rfl rfl ?_
  refine v_iconst fx dX5_begin_18 rfl ?_
  refine v_put fx 0 5 [(h0, ob 5 [.ref r, .int (iI w), .int (iI (x - 1)), .int (iI 0), .int (iI (-1)), .int (iI 0)])] inX5 tyX5_ok nmX5 k152 dX5_begin_19 rfl rfl (by decide) rfl rfl rfl rfl (nl rfl) rfl rfl ?_
  exact v_vret fx [(h0, ob 5 [.ref r, .int (iI w), .int (iI (x - 1)), .int (iI 0), .int (iI (-1)), .int (iI 0)])] [0] hr dX5_begin_22 rfl rfl (nl rfl) (nl rfl) ⟨rfl, rfl⟩
theorem dX5_isWhole_0 : decode cX5_isWhole 0 = .ok (.aload_n 0, 1) := by decide +kernel
theorem dX5_isWhole_1 : decode cX5_isWhole 1 = .ok (.getfield 23, 3) := by decide +kernel
theorem dX5_isWhole_4 : decode cX5_isWhole 4 = .ok (.aload_n 0, 1) := by decide +kernel
theorem dX5_isWhole_5 : decode cX5_isWhole 5 = .ok (.getfield 13, 3) := by decide +kernel
theorem dX5_isWhole_8 : decode cX5_isWhole 8 = .ok (.if_icmp .lt 7, 3) := by decide +kernel
theorem dX5_isWhole_11 : decode cX5_isWhole 11 = .ok (.iconst 1, 1) := by decide +kernel
theorem dX5_isWhole_12 : decode cX5_isWhole 12 = .ok (.goto 4, 3) := by decide +kernel
theorem dX5_isWhole_15 : decode cX5_isWhole 15 = .ok (.iconst 0, 1) := by decide +kernel
theorem dX5_isWhole_16 : decode cX5_isWhole 16 = .ok (.ireturn, 1) := by decide +kernel
abbrev po_c_X5_isWhole (g : GG) (h0 : Nat) (r : Nat) (w : Int) (ab : Int) (nx : Int) (a0 : Int) (bk : Int) : Option Value → va_W → Prop := fun v8 w8 => ∃ q : Int, v8 = some (.int (iI q)) ∧ w8 = [(h0, ob 5 [.ref r, .int (iI w), .int (iI ab), .int (iI nx), .int (iI a0), .int (iI bk)])] ∧ ((q = 1 ∧ w ≤ a0) ∨ (q = 0 ∧ a0 < w))
set_option maxHeartbeats 4000000 in
set_option maxRecDepth 100000 in
theorem c_X5_isWhole (l : Launch) (g : GG) (h0 : Nat) (r : Nat) (w : Int) (ab : Int) (nx : Int) (a0 : Int) (bk : Int) (hp0 : -2147483648 ≤ a0 ∧ a0 < 2147483648) (hp1 : -2147483648 ≤ w ∧ w < 2147483648) : Ct l g yX5_isWhole (wM yX5_isWhole cX5_isWhole 1 (some .boolean)) (rmD 0 0 0) [.ref h0] [(h0, ob 5 [.ref r, .int (iI w), .int (iI ab), .int (iI nx), .int (iI a0), .int (iI bk)])] (po_c_X5_isWhole g h0 r w ab nx a0 bk) := by
  refine Ct_of (by decide +kernel) (Nat.le_of_ble_eq_true rfl) ?_
  intro p9 e9 s9 m9 ag9 bl9 mt9 c9 A9 fx hr hnm
  refine v_aload_n fx 0 dX5_isWhole_0 rfl rfl ?_
  refine v_get fx 0 4 inX5 k151 dX5_isWhole_1 rfl rfl (by decide) rfl rfl rfl ?_
  refine v_aload_n fx 0 dX5_isWhole_4 rfl rfl ?_
  refine v_get fx 0 1 inX5 k148 dX5_isWhole_5 rfl rfl (by decide) rfl rfl rfl ?_
  refine v_icmp_lt fx 15 dX5_isWhole_8 (by decide) rfl (by omega) (by omega) (fun h_1 => ?_) (fun h_1 => ?_)
  ·
    refine v_iconst fx dX5_isWhole_15 rfl ?_
    exact v_zret fx [(h0, ob 5 [.ref r, .int (iI w), .int (iI ab), .int (iI nx), .int (iI a0), .int (iI bk)])] [0] hr dX5_isWhole_16 (by first | rfl | exact nar_z _ (by omega)) rfl rfl (nl rfl) (nl rfl) ⟨0, rfl, rfl, (by first | omega | rfl | assumption)⟩
  ·
    refine v_iconst fx dX5_isWhole_11 rfl ?_
    refine v_goto fx 16 dX5_isWhole_12 (by decide) ?_
    exact v_zret fx [(h0, ob 5 [.ref r, .int (iI w), .int (iI ab), .int (iI nx), .int (iI a0), .int (iI bk)])] [0] hr dX5_isWhole_16 (by first | rfl | exact nar_z _ (by omega)) rfl rfl (nl rfl) (nl rfl) ⟨1, rfl, rfl, (by first | omega | rfl | assumption)⟩
theorem dX5_a0_0 : decode cX5_a0 0 = .ok (.aload_n 0, 1) := by decide +kernel
theorem dX5_a0_1 : decode cX5_a0 1 = .ok (.getfield 23, 3) := by decide +kernel
theorem dX5_a0_4 : decode cX5_a0 4 = .ok (.ireturn, 1) := by decide +kernel
abbrev po_c_X5_a0 (g : GG) (h0 : Nat) (r : Nat) (w : Int) (ab : Int) (nx : Int) (a0 : Int) (bk : Int) : Option Value → va_W → Prop := fun v8 w8 => v8 = some (.int (iI a0)) ∧ w8 = [(h0, ob 5 [.ref r, .int (iI w), .int (iI ab), .int (iI nx), .int (iI a0), .int (iI bk)])]
set_option maxHeartbeats 4000000 in
set_option maxRecDepth 100000 in
theorem c_X5_a0 (l : Launch) (g : GG) (h0 : Nat) (r : Nat) (w : Int) (ab : Int) (nx : Int) (a0 : Int) (bk : Int) : Ct l g yX5_a0 (wM yX5_a0 cX5_a0 1 (some .int)) (rmD 0 0 0) [.ref h0] [(h0, ob 5 [.ref r, .int (iI w), .int (iI ab), .int (iI nx), .int (iI a0), .int (iI bk)])] (po_c_X5_a0 g h0 r w ab nx a0 bk) := by
  refine Ct_of (by decide +kernel) (Nat.le_of_ble_eq_true rfl) ?_
  intro p9 e9 s9 m9 ag9 bl9 mt9 c9 A9 fx hr hnm
  refine v_aload_n fx 0 dX5_a0_0 rfl rfl ?_
  refine v_get fx 0 4 inX5 k151 dX5_a0_1 rfl rfl (by decide) rfl rfl rfl ?_
  exact v_iret fx [(h0, ob 5 [.ref r, .int (iI w), .int (iI ab), .int (iI nx), .int (iI a0), .int (iI bk)])] [0] hr dX5_a0_4 rfl rfl (nl rfl) (nl rfl) ⟨rfl, rfl⟩
theorem dX5_isBlack_0 : decode cX5_isBlack 0 = .ok (.aload_n 0, 1) := by decide +kernel
theorem dX5_isBlack_1 : decode cX5_isBlack 1 = .ok (.getfield 26, 3) := by decide +kernel
theorem dX5_isBlack_4 : decode cX5_isBlack 4 = .ok (.ireturn, 1) := by decide +kernel
abbrev po_c_X5_isBlack (g : GG) (h0 : Nat) (r : Nat) (w : Int) (ab : Int) (nx : Int) (a0 : Int) (bk : Int) : Option Value → va_W → Prop := fun v8 w8 => v8 = some (.int (iI bk)) ∧ w8 = [(h0, ob 5 [.ref r, .int (iI w), .int (iI ab), .int (iI nx), .int (iI a0), .int (iI bk)])]
set_option maxHeartbeats 4000000 in
set_option maxRecDepth 100000 in
theorem c_X5_isBlack (l : Launch) (g : GG) (h0 : Nat) (r : Nat) (w : Int) (ab : Int) (nx : Int) (a0 : Int) (bk : Int) (hp0 : 0 ≤ bk ∧ bk ≤ 1) : Ct l g yX5_isBlack (wM yX5_isBlack cX5_isBlack 1 (some .boolean)) (rmD 0 0 0) [.ref h0] [(h0, ob 5 [.ref r, .int (iI w), .int (iI ab), .int (iI nx), .int (iI a0), .int (iI bk)])] (po_c_X5_isBlack g h0 r w ab nx a0 bk) := by
  refine Ct_of (by decide +kernel) (Nat.le_of_ble_eq_true rfl) ?_
  intro p9 e9 s9 m9 ag9 bl9 mt9 c9 A9 fx hr hnm
  refine v_aload_n fx 0 dX5_isBlack_0 rfl rfl ?_
  refine v_get fx 0 5 inX5 k152 dX5_isBlack_1 rfl rfl (by decide) rfl rfl rfl ?_
  exact v_zret fx [(h0, ob 5 [.ref r, .int (iI w), .int (iI ab), .int (iI nx), .int (iI a0), .int (iI bk)])] [0] hr dX5_isBlack_4 (by first | rfl | exact nar_z _ (by omega)) rfl rfl (nl rfl) (nl rfl) ⟨rfl, rfl⟩
theorem dX5_runStart_0 : decode cX5_runStart 0 = .ok (.aload_n 0, 1) := by decide +kernel
theorem dX5_runStart_1 : decode cX5_runStart 1 = .ok (.getfield 23, 3) := by decide +kernel
theorem dX5_runStart_4 : decode cX5_runStart 4 = .ok (.iconst 0, 1) := by decide +kernel
theorem dX5_runStart_5 : decode cX5_runStart 5 = .ok (.invokestatic 30, 3) := by decide +kernel
theorem dX5_runStart_8 : decode cX5_runStart 8 = .ok (.ireturn, 1) := by decide +kernel
abbrev po_c_X5_runStart (g : GG) (h0 : Nat) (r : Nat) (w : Int) (ab : Int) (nx : Int) (a0 : Int) (bk : Int) : Option Value → va_W → Prop := fun v8 w8 => ∃ q : Int, v8 = some (.int (iI q)) ∧ w8 = [(h0, ob 5 [.ref r, .int (iI w), .int (iI ab), .int (iI nx), .int (iI a0), .int (iI bk)])] ∧ ((a0 < 0 ∧ q = 0) ∨ (0 ≤ a0 ∧ q = a0))
set_option maxHeartbeats 4000000 in
set_option maxRecDepth 100000 in
theorem c_X5_runStart (l : Launch) (g : GG) (h0 : Nat) (r : Nat) (w : Int) (ab : Int) (nx : Int) (a0 : Int) (bk : Int) (hp0 : -2147483648 ≤ a0 ∧ a0 < 2147483648) : Ct l g yX5_runStart (wM yX5_runStart cX5_runStart 1 (some .int)) (rmD 1 0 0) [.ref h0] [(h0, ob 5 [.ref r, .int (iI w), .int (iI ab), .int (iI nx), .int (iI a0), .int (iI bk)])] (po_c_X5_runStart g h0 r w ab nx a0 bk) := by
  refine Ct_of (by decide +kernel) (Nat.le_of_ble_eq_true rfl) ?_
  intro p9 e9 s9 m9 ag9 bl9 mt9 c9 A9 fx hr hnm
  refine v_aload_n fx 0 dX5_runStart_0 rfl rfl ?_
  refine v_get fx 0 4 inX5 k151 dX5_runStart_1 rfl rfl (by decide) rfl rfl rfl ?_
  refine v_iconst fx dX5_runStart_4 rfl ?_
  obtain ⟨z_1, ez_1⟩ : ∃ z9 : Int, (if a0 < 0 then 0 else a0) = z9 := ⟨_, rfl⟩
  have hz_1 : (a0 < 0 ∧ z_1 = 0) ∨ (¬ a0 < 0 ∧ z_1 = a0) := by split at ez_1 <;> omega
  refine v_mmax fx (z_1) (by omega) (by omega) (ez_1) k731 k83 k47 k84 dX5_runStart_5 (nl rfl) (nl rfl) (nl rfl) (nl rfl) (nl rfl) rfl ?_
  exact v_iret fx [(h0, ob 5 [.ref r, .int (iI w), .int (iI ab), .int (iI nx), .int (iI a0), .int (iI bk)])] [0] hr dX5_runStart_8 rfl rfl (nl rfl) (nl rfl) ⟨z_1, rfl, rfl, (by first | omega | rfl | assumption)⟩
theorem dX5_numberOfB1_0 : decode cX5_numberOfB1 0 = .ok (.aload_n 0, 1) := by decide +kernel
theorem dX5_numberOfB1_1 : decode cX5_numberOfB1 1 = .ok (.getfield 20, 3) := by decide +kernel
theorem dX5_numberOfB1_4 : decode cX5_numberOfB1 4 = .ok (.iconst 1, 1) := by decide +kernel
theorem dX5_numberOfB1_5 : decode cX5_numberOfB1 5 = .ok (.iand, 1) := by decide +kernel
theorem dX5_numberOfB1_6 : decode cX5_numberOfB1 6 = .ok (.ifCond .ne 7, 3) := by decide +kernel
theorem dX5_numberOfB1_9 : decode cX5_numberOfB1 9 = .ok (.iconst 1, 1) := by decide +kernel
theorem dX5_numberOfB1_10 : decode cX5_numberOfB1 10 = .ok (.goto 4, 3) := by decide +kernel
theorem dX5_numberOfB1_13 : decode cX5_numberOfB1 13 = .ok (.iconst 0, 1) := by decide +kernel
theorem dX5_numberOfB1_14 : decode cX5_numberOfB1 14 = .ok (.istore_n 1, 1) := by decide +kernel
theorem dX5_numberOfB1_15 : decode cX5_numberOfB1 15 = .ok (.iload_n 1, 1) := by decide +kernel
theorem dX5_numberOfB1_16 : decode cX5_numberOfB1 16 = .ok (.aload_n 0, 1) := by decide +kernel
theorem dX5_numberOfB1_17 : decode cX5_numberOfB1 17 = .ok (.getfield 26, 3) := by decide +kernel
theorem dX5_numberOfB1_20 : decode cX5_numberOfB1 20 = .ok (.if_icmp .eq 10, 3) := by decide +kernel
theorem dX5_numberOfB1_23 : decode cX5_numberOfB1 23 = .ok (.aload_n 0, 1) := by decide +kernel
theorem dX5_numberOfB1_24 : decode cX5_numberOfB1 24 = .ok (.getfield 20, 3) := by decide +kernel
theorem dX5_numberOfB1_27 : decode cX5_numberOfB1 27 = .ok (.goto 9, 3) := by decide +kernel
theorem dX5_numberOfB1_30 : decode cX5_numberOfB1 30 = .ok (.aload_n 0, 1) := by decide +kernel
theorem dX5_numberOfB1_31 : decode cX5_numberOfB1 31 = .ok (.getfield 20, 3) := by decide +kernel
theorem dX5_numberOfB1_34 : decode cX5_numberOfB1 34 = .ok (.iconst 1, 1) := by decide +kernel
theorem dX5_numberOfB1_35 : decode cX5_numberOfB1 35 = .ok (.iadd, 1) := by decide +kernel
theorem dX5_numberOfB1_36 : decode cX5_numberOfB1 36 = .ok (.ireturn, 1) := by decide +kernel
abbrev po_c_X5_numberOfB1 (g : GG) (h0 : Nat) (r : Nat) (w : Int) (ab : Int) (nx : Int) (a0 : Int) (bk : Int) : Option Value → va_W → Prop := fun v8 w8 => ∃ q : Int, v8 = some (.int (iI q)) ∧ w8 = [(h0, ob 5 [.ref r, .int (iI w), .int (iI ab), .int (iI nx), .int (iI a0), .int (iI bk)])] ∧ (q = nb1 nx bk)
set_option maxHeartbeats 4000000 in
set_option maxRecDepth 100000 in
theorem c_X5_numberOfB1 (l : Launch) (g : GG) (h0 : Nat) (r : Nat) (w : Int) (ab : Int) (nx : Int) (a0 : Int) (bk : Int) (hp0 : 0 ≤ nx ∧ nx < 100000) (hp1 : 0 ≤ bk ∧ bk ≤ 1) : Ct l g yX5_numberOfB1 (wM yX5_numberOfB1 cX5_numberOfB1 2 (some .int)) (rmD 0 0 0) [.ref h0] [(h0, ob 5 [.ref r, .int (iI w), .int (iI ab), .int (iI nx), .int (iI a0), .int (iI bk)])] (po_c_X5_numberOfB1 g h0 r w ab nx a0 bk) := by
  refine Ct_of (by decide +kernel) (Nat.le_of_ble_eq_true rfl) ?_
  intro p9 e9 s9 m9 ag9 bl9 mt9 c9 A9 fx hr hnm
  refine v_aload_n fx 0 dX5_numberOfB1_0 rfl rfl ?_
  refine v_get fx 0 3 inX5 k150 dX5_numberOfB1_1 rfl rfl (by decide) rfl rfl rfl ?_
  refine v_iconst fx dX5_numberOfB1_4 rfl ?_
  refine v_iand fx (iI (nx % 2)) dX5_numberOfB1_5 (iI_and (by omega) 1 (by decide +kernel)) rfl ?_
  refine v_if_ne fx 13 dX5_numberOfB1_6 (by decide) rfl (by omega) (fun h_1 => ?_) (fun h_1 => ?_)
  ·
    refine v_iconst fx dX5_numberOfB1_13 rfl ?_
    refine v_istore_n fx [(1, .int (iI 0)), (0, .ref h0)] dX5_numberOfB1_14 (by decide) rfl rfl ?_
    refine v_iload_n fx 0 dX5_numberOfB1_15 rfl rfl ?_
    refine v_aload_n fx 1 dX5_numberOfB1_16 rfl rfl ?_
    refine v_get fx 0 5 inX5 k152 dX5_numberOfB1_17 rfl rfl (by decide) rfl rfl rfl ?_
    refine v_icmp_eq fx 30 dX5_numberOfB1_20 (by decide) rfl (by omega) (by omega) (fun h_2 => ?_) (fun h_2 => ?_)
    ·
      refine v_aload_n fx 1 dX5_numberOfB1_30 rfl rfl ?_
      refine v_get fx 0 3 inX5 k150 dX5_numberOfB1_31 rfl rfl (by decide) rfl rfl rfl ?_
      refine v_iconst fx dX5_numberOfB1_34 rfl ?_
      refine v_iadd fx (nx + 1) dX5_numberOfB1_35 (by rfl) rfl ?_
      exact v_iret fx [(h0, ob 5 [.ref r, .int (iI w), .int (iI ab), .int (iI nx), .int (iI a0), .int (iI bk)])] [0] hr dX5_numberOfB1_36 rfl rfl (nl rfl) (nl rfl) ⟨(nx + 1), rfl, rfl, (by exact nb1_e (by omega))⟩
    ·
      refine v_aload_n fx 1 dX5_numberOfB1_23 rfl rfl ?_
      refine v_get fx 0 3 inX5 k150 dX5_numberOfB1_24 rfl rfl (by decide) rfl rfl rfl ?_
      refine v_goto fx 36 dX5_numberOfB1_27 (by decide) ?_
      exact v_iret fx [(h0, ob 5 [.ref r, .int (iI w), .int (iI ab), .int (iI nx), .int (iI a0), .int (iI bk)])] [0] hr dX5_numberOfB1_36 rfl rfl (nl rfl) (nl rfl) ⟨nx, rfl, rfl, (by exact nb1_e (by omega))⟩
  ·
    refine v_iconst fx dX5_numberOfB1_9 rfl ?_
    refine v_goto fx 14 dX5_numberOfB1_10 (by decide) ?_
    refine v_istore_n fx [(1, .int (iI 1)), (0, .ref h0)] dX5_numberOfB1_14 (by decide) rfl rfl ?_
    refine v_iload_n fx 0 dX5_numberOfB1_15 rfl rfl ?_
    refine v_aload_n fx 1 dX5_numberOfB1_16 rfl rfl ?_
    refine v_get fx 0 5 inX5 k152 dX5_numberOfB1_17 rfl rfl (by decide) rfl rfl rfl ?_
    refine v_icmp_eq fx 30 dX5_numberOfB1_20 (by decide) rfl (by omega) (by omega) (fun h_3 => ?_) (fun h_3 => ?_)
    ·
      refine v_aload_n fx 1 dX5_numberOfB1_30 rfl rfl ?_
      refine v_get fx 0 3 inX5 k150 dX5_numberOfB1_31 rfl rfl (by decide) rfl rfl rfl ?_
      refine v_iconst fx dX5_numberOfB1_34 rfl ?_
      refine v_iadd fx (nx + 1) dX5_numberOfB1_35 (by rfl) rfl ?_
      exact v_iret fx [(h0, ob 5 [.ref r, .int (iI w), .int (iI ab), .int (iI nx), .int (iI a0), .int (iI bk)])] [0] hr dX5_numberOfB1_36 rfl rfl (nl rfl) (nl rfl) ⟨(nx + 1), rfl, rfl, (by exact nb1_e (by omega))⟩
    ·
      refine v_aload_n fx 1 dX5_numberOfB1_23 rfl rfl ?_
      refine v_get fx 0 3 inX5 k150 dX5_numberOfB1_24 rfl rfl (by decide) rfl rfl rfl ?_
      refine v_goto fx 36 dX5_numberOfB1_27 (by decide) ?_
      exact v_iret fx [(h0, ob 5 [.ref r, .int (iI w), .int (iI ab), .int (iI nx), .int (iI a0), .int (iI bk)])] [0] hr dX5_numberOfB1_36 rfl rfl (nl rfl) (nl rfl) ⟨nx, rfl, rfl, (by exact nb1_e (by omega))⟩
theorem dX5_b1_0 : decode cX5_b1 0 = .ok (.aload_n 0, 1) := by decide +kernel
theorem dX5_b1_1 : decode cX5_b1 1 = .ok (.getfield 7, 3) := by decide +kernel
theorem dX5_b1_4 : decode cX5_b1 4 = .ok (.aload_n 0, 1) := by decide +kernel
theorem dX5_b1_5 : decode cX5_b1 5 = .ok (.getfield 17, 3) := by decide +kernel
theorem dX5_b1_8 : decode cX5_b1 8 = .ok (.aload_n 0, 1) := by decide +kernel
theorem dX5_b1_9 : decode cX5_b1 9 = .ok (.invokevirtual 36, 3) := by decide +kernel
theorem dX5_b1_12 : decode cX5_b1 12 = .ok (.aload_n 0, 1) := by decide +kernel
theorem dX5_b1_13 : decode cX5_b1 13 = .ok (.getfield 13, 3) := by decide +kernel
theorem dX5_b1_16 : decode cX5_b1 16 = .ok (.invokevirtual 40, 3) := by decide +kernel
theorem dX5_b1_19 : decode cX5_b1 19 = .ok (.ireturn, 1) := by decide +kernel
abbrev po_c_X5_b1 (g : GG) (h0 : Nat) (r : Nat) (w : Int) (ab : Int) (nx : Int) (a0 : Int) (bk : Int) (rs : Nat) (it : Nat) (n : Nat) (c : Int) (F : Nat → Int) (fs : Nat → Int32) (fi : Nat → Int32) : Option Value → va_W → Prop := fun v8 w8 => ∃ q : Int, v8 = some (.int (iI q)) ∧ w8 = [(h0, ob 5 [.ref r, .int (iI w), .int (iI ab), .int (iI nx), .int (iI a0), .int (iI bk)]), (r, ob 2 [.ref rs, .ref it, .int (iI c)]), (rs, aI g 27 fs), (it, aI g n fi)] ∧ (q = itm F fi c w ab (nb1 nx bk)) ∧ (0 ≤ q ∧ q ≤ w) ∧ (a0 < q ∨ q = w)
set_option maxHeartbeats 4000000 in
set_option maxRecDepth 100000 in
theorem c_X5_b1 (l : Launch) (g : GG) (h0 : Nat) (r : Nat) (w : Int) (ab : Int) (nx : Int) (a0 : Int) (bk : Int) (rs : Nat) (it : Nat) (n : Nat) (c : Int) (F : Nat → Int) (fs : Nat → Int32) (fi : Nat → Int32) (hp0 : LB c F fs n) (hp1 : RI w c F fi) (hp2 : -1 ≤ ab ∧ ab < c) (hp3 : 1 ≤ w ∧ w ≤ 3000) (hp4 : TI F fi ab nx a0) (hp5 : 0 ≤ nx ∧ nx < 100000) (hp6 : 0 ≤ bk ∧ bk ≤ 1) (hp7 : -1 ≤ a0 ∧ a0 ≤ w) : Ct l g yX5_b1 (wM yX5_b1 cX5_b1 1 (some .int)) (rmD 1 0 0) [.ref h0] [(h0, ob 5 [.ref r, .int (iI w), .int (iI ab), .int (iI nx), .int (iI a0), .int (iI bk)]), (r, ob 2 [.ref rs, .ref it, .int (iI c)]), (rs, aI g 27 fs), (it, aI g n fi)] (po_c_X5_b1 g h0 r w ab nx a0 bk rs it n c F fs fi) := by
  refine Ct_of (by decide +kernel) (Nat.le_of_ble_eq_true rfl) ?_
  intro p9 e9 s9 m9 ag9 bl9 mt9 c9 A9 fx hr hnm
  have hc := LB_c hp0
  refine v_aload_n fx 0 dX5_b1_0 rfl rfl ?_
  refine v_get fx 0 0 inX5 k147 dX5_b1_1 rfl rfl (by decide) rfl rfl rfl ?_
  refine v_aload_n fx 0 dX5_b1_4 rfl rfl ?_
  refine v_get fx 0 2 inX5 k149 dX5_b1_5 rfl rfl (by decide) rfl rfl rfl ?_
  refine v_aload_n fx 0 dX5_b1_8 rfl rfl ?_
  refine v_callV (As := []) (rest := [.int (iI ab), .ref r]) fx [0] [1, 2, 3] [(h0, ob 5 [.ref r, .int (iI w), .int (iI ab), .int (iI nx), .int (iI a0), .int (iI bk)])] [(r, ob 2 [.ref rs, .ref it, .int (iI c)]), (rs, aI g 27 fs), (it, aI g n fi)] 0 0 (c_X5_numberOfB1 l g h0 r w ab nx a0 bk (by first | omega | decide | assumption) (by first | omega | decide | assumption)) dX5_b1_9 k693 k695 k7 k52 k696 ykX5_numberOfB1 rfl rfl rfl rfl rfl rfl rfl rfl (nl rfl) ⟨nl rfl, nl rfl⟩ ⟨(nl rfl), (nl rfl)⟩ rfl (fun v9 w9 hu => ?_)
  obtain ⟨q_1, rfl, rfl, u_2⟩ := hu
  refine v_is (wn := [(r, ob 2 [.ref rs, .ref it, .int (iI c)]), (rs, aI g 27 fs), (it, aI g n fi), (h0, ob 5 [.ref r, .int (iI w), .int (iI ab), .int (iI nx), .int (iI a0), .int (iI bk)])]) (cn := 0) (sn := 0) (sn2 := [.int (iI q_1), .int (iI ab), .ref r]) rfl rfl rfl rfl ?_
  have hnb := nb1_b nx bk
  refine v_aload_n fx 0 dX5_b1_12 rfl rfl ?_
  refine v_get fx 3 1 inX5 k148 dX5_b1_13 rfl rfl (by decide) rfl rfl rfl ?_
  refine v_callV (As := [.int (iI ab), .int (iI q_1), .int (iI w)]) (rest := []) fx [0, 1, 2] [3] [(r, ob 2 [.ref rs, .ref it, .int (iI c)]), (rs, aI g 27 fs), (it, aI g n fi)] [(h0, ob 5 [.ref r, .int (iI w), .int (iI ab), .int (iI nx), .int (iI a0), .int (iI bk)])] 3 0 (c_X2_item l g r rs it n c F fs fi ab q_1 w (by first | omega | decide | assumption) (by omega) (by omega) (by omega)) dX5_b1_16 k697 k686 k687 k49 k688 ykX2_item rfl rfl rfl rfl rfl rfl rfl rfl (nl rfl) ⟨nl rfl, nl rfl⟩ ⟨(nl rfl), (nl rfl)⟩ rfl (fun v9 w9 hu => ?_)
  obtain ⟨r_3, rfl, rfl, u_4, u_5⟩ := hu
  refine v_is (wn := [(h0, ob 5 [.ref r, .int (iI w), .int (iI ab), .int (iI nx), .int (iI a0), .int (iI bk)]), (r, ob 2 [.ref rs, .ref it, .int (iI c)]), (rs, aI g 27 fs), (it, aI g n fi)]) (cn := 0) (sn := 0) (sn2 := [.int (iI r_3)]) rfl rfl rfl rfl ?_
  have hib := itm_b (k := q_1) hp1 hp2 hp4 (by omega) (by omega) (by omega)
  exact v_iret fx [(h0, ob 5 [.ref r, .int (iI w), .int (iI ab), .int (iI nx), .int (iI a0), .int (iI bk)]), (r, ob 2 [.ref rs, .ref it, .int (iI c)]), (rs, aI g 27 fs), (it, aI g n fi)] [0, 1, 2, 3] hr dX5_b1_19 rfl rfl (nl rfl) (nl rfl) ⟨r_3, rfl, rfl, (by rw [← (by assumption : _ = nb1 nx bk)]; assumption), (by first | omega | rfl | assumption), (by first | omega | rfl | assumption)⟩
theorem dX5_b2_0 : decode cX5_b2 0 = .ok (.aload_n 0, 1) := by decide +kernel
theorem dX5_b2_1 : decode cX5_b2 1 = .ok (.getfield 7, 3) := by decide +kernel
theorem dX5_b2_4 : decode cX5_b2 4 = .ok (.aload_n 0, 1) := by decide +kernel
theorem dX5_b2_5 : decode cX5_b2 5 = .ok (.getfield 17, 3) := by decide +kernel
theorem dX5_b2_8 : decode cX5_b2 8 = .ok (.aload_n 0, 1) := by decide +kernel
theorem dX5_b2_9 : decode cX5_b2 9 = .ok (.invokevirtual 36, 3) := by decide +kernel
theorem dX5_b2_12 : decode cX5_b2 12 = .ok (.iconst 1, 1) := by decide +kernel
theorem dX5_b2_13 : decode cX5_b2 13 = .ok (.iadd, 1) := by decide +kernel
theorem dX5_b2_14 : decode cX5_b2 14 = .ok (.aload_n 0, 1) := by decide +kernel
theorem dX5_b2_15 : decode cX5_b2 15 = .ok (.getfield 13, 3) := by decide +kernel
theorem dX5_b2_18 : decode cX5_b2 18 = .ok (.invokevirtual 40, 3) := by decide +kernel
theorem dX5_b2_21 : decode cX5_b2 21 = .ok (.ireturn, 1) := by decide +kernel
abbrev po_c_X5_b2 (g : GG) (h0 : Nat) (r : Nat) (w : Int) (ab : Int) (nx : Int) (a0 : Int) (bk : Int) (rs : Nat) (it : Nat) (n : Nat) (c : Int) (F : Nat → Int) (fs : Nat → Int32) (fi : Nat → Int32) : Option Value → va_W → Prop := fun v8 w8 => ∃ q : Int, v8 = some (.int (iI q)) ∧ w8 = [(h0, ob 5 [.ref r, .int (iI w), .int (iI ab), .int (iI nx), .int (iI a0), .int (iI bk)]), (r, ob 2 [.ref rs, .ref it, .int (iI c)]), (rs, aI g 27 fs), (it, aI g n fi)] ∧ (q = itm F fi c w ab (nb1 nx bk + 1)) ∧ (0 ≤ q ∧ q ≤ w) ∧ (a0 < q ∨ q = w)
set_option maxHeartbeats 4000000 in
set_option maxRecDepth 100000 in
theorem c_X5_b2 (l : Launch) (g : GG) (h0 : Nat) (r : Nat) (w : Int) (ab : Int) (nx : Int) (a0 : Int) (bk : Int) (rs : Nat) (it : Nat) (n : Nat) (c : Int) (F : Nat → Int) (fs : Nat → Int32) (fi : Nat → Int32) (hp0 : LB c F fs n) (hp1 : RI w c F fi) (hp2 : -1 ≤ ab ∧ ab < c) (hp3 : 1 ≤ w ∧ w ≤ 3000) (hp4 : TI F fi ab nx a0) (hp5 : 0 ≤ nx ∧ nx < 100000) (hp6 : 0 ≤ bk ∧ bk ≤ 1) (hp7 : -1 ≤ a0 ∧ a0 ≤ w) : Ct l g yX5_b2 (wM yX5_b2 cX5_b2 1 (some .int)) (rmD 1 0 0) [.ref h0] [(h0, ob 5 [.ref r, .int (iI w), .int (iI ab), .int (iI nx), .int (iI a0), .int (iI bk)]), (r, ob 2 [.ref rs, .ref it, .int (iI c)]), (rs, aI g 27 fs), (it, aI g n fi)] (po_c_X5_b2 g h0 r w ab nx a0 bk rs it n c F fs fi) := by
  refine Ct_of (by decide +kernel) (Nat.le_of_ble_eq_true rfl) ?_
  intro p9 e9 s9 m9 ag9 bl9 mt9 c9 A9 fx hr hnm
  have hc := LB_c hp0
  refine v_aload_n fx 0 dX5_b2_0 rfl rfl ?_
  refine v_get fx 0 0 inX5 k147 dX5_b2_1 rfl rfl (by decide) rfl rfl rfl ?_
  refine v_aload_n fx 0 dX5_b2_4 rfl rfl ?_
  refine v_get fx 0 2 inX5 k149 dX5_b2_5 rfl rfl (by decide) rfl rfl rfl ?_
  refine v_aload_n fx 0 dX5_b2_8 rfl rfl ?_
  refine v_callV (As := []) (rest := [.int (iI ab), .ref r]) fx [0] [1, 2, 3] [(h0, ob 5 [.ref r, .int (iI w), .int (iI ab), .int (iI nx), .int (iI a0), .int (iI bk)])] [(r, ob 2 [.ref rs, .ref it, .int (iI c)]), (rs, aI g 27 fs), (it, aI g n fi)] 0 0 (c_X5_numberOfB1 l g h0 r w ab nx a0 bk (by first | omega | decide | assumption) (by first | omega | decide | assumption)) dX5_b2_9 k693 k695 k7 k52 k696 ykX5_numberOfB1 rfl rfl rfl rfl rfl rfl rfl rfl (nl rfl) ⟨nl rfl, nl rfl⟩ ⟨(nl rfl), (nl rfl)⟩ rfl (fun v9 w9 hu => ?_)
  obtain ⟨q_1, rfl, rfl, u_2⟩ := hu
  refine v_is (wn := [(r, ob 2 [.ref rs, .ref it, .int (iI c)]), (rs, aI g 27 fs), (it, aI g n fi), (h0, ob 5 [.ref r, .int (iI w), .int (iI ab), .int (iI nx), .int (iI a0), .int (iI bk)])]) (cn := 0) (sn := 0) (sn2 := [.int (iI q_1), .int (iI ab), .ref r]) rfl rfl rfl rfl ?_
  have hnb := nb1_b nx bk
  refine v_iconst fx dX5_b2_12 rfl ?_
  refine v_iadd fx (q_1 + 1) dX5_b2_13 (by rfl) rfl ?_
  refine v_aload_n fx 0 dX5_b2_14 rfl rfl ?_
  refine v_get fx 3 1 inX5 k148 dX5_b2_15 rfl rfl (by decide) rfl rfl rfl ?_
  refine v_callV (As := [.int (iI ab), .int (iI (q_1 + 1)), .int (iI w)]) (rest := []) fx [0, 1, 2] [3] [(r, ob 2 [.ref rs, .ref it, .int (iI c)]), (rs, aI g 27 fs), (it, aI g n fi)] [(h0, ob 5 [.ref r, .int (iI w), .int (iI ab), .int (iI nx), .int (iI a0), .int (iI bk)])] 3 0 (c_X2_item l g r rs it n c F fs fi ab (q_1 + 1) w (by first | omega | decide | assumption) (by omega) (by omega) (by omega)) dX5_b2_18 k697 k686 k687 k49 k688 ykX2_item rfl rfl rfl rfl rfl rfl rfl rfl (nl rfl) ⟨nl rfl, nl rfl⟩ ⟨(nl rfl), (nl rfl)⟩ rfl (fun v9 w9 hu => ?_)
  obtain ⟨r_3, rfl, rfl, u_4, u_5⟩ := hu
  refine v_is (wn := [(h0, ob 5 [.ref r, .int (iI w), .int (iI ab), .int (iI nx), .int (iI a0), .int (iI bk)]), (r, ob 2 [.ref rs, .ref it, .int (iI c)]), (rs, aI g 27 fs), (it, aI g n fi)]) (cn := 0) (sn := 0) (sn2 := [.int (iI r_3)]) rfl rfl rfl rfl ?_
  have hib := itm_b (k := q_1 + 1) hp1 hp2 hp4 (by omega) (by omega) (by omega)
  exact v_iret fx [(h0, ob 5 [.ref r, .int (iI w), .int (iI ab), .int (iI nx), .int (iI a0), .int (iI bk)]), (r, ob 2 [.ref rs, .ref it, .int (iI c)]), (rs, aI g 27 fs), (it, aI g n fi)] [0, 1, 2, 3] hr dX5_b2_21 rfl rfl (nl rfl) (nl rfl) ⟨r_3, rfl, rfl, (by rw [← (by assumption : _ = nb1 nx bk)]; assumption), (by first | omega | rfl | assumption), (by first | omega | rfl | assumption)⟩
theorem dX5_moveTo_0 : decode cX5_moveTo 0 = .ok (.aload_n 0, 1) := by decide +kernel
theorem dX5_moveTo_1 : decode cX5_moveTo 1 = .ok (.iload_n 1, 1) := by decide +kernel
theorem dX5_moveTo_2 : decode cX5_moveTo 2 = .ok (.putfield 23, 3) := by decide +kernel
theorem dX5_moveTo_5 : decode cX5_moveTo 5 = .ok (.aload_n 0, 1) := by decide +kernel
theorem dX5_moveTo_6 : decode cX5_moveTo 6 = .ok (.getfield 7, 3) := by decide +kernel
theorem dX5_moveTo_9 : decode cX5_moveTo 9 = .ok (.aload_n 0, 1) := by decide +kernel
theorem dX5_moveTo_10 : decode cX5_moveTo 10 = .ok (.getfield 17, 3) := by decide +kernel
theorem dX5_moveTo_13 : decode cX5_moveTo 13 = .ok (.invokevirtual 46, 3) := by decide +kernel
theorem dX5_moveTo_16 : decode cX5_moveTo 16 = .ok (.istore_n 2, 1) := by decide +kernel
theorem dX5_moveTo_17 : decode cX5_moveTo 17 = .ok (.aload_n 0, 1) := by decide +kernel
theorem dX5_moveTo_18 : decode cX5_moveTo 18 = .ok (.getfield 20, 3) := by decide +kernel
theorem dX5_moveTo_21 : decode cX5_moveTo 21 = .ok (.iload_n 2, 1) := by decide +kernel
theorem dX5_moveTo_22 : decode cX5_moveTo 22 = .ok (.if_icmp .ge 42, 3) := by decide +kernel
theorem dX5_moveTo_25 : decode cX5_moveTo 25 = .ok (.aload_n 0, 1) := by decide +kernel
theorem dX5_moveTo_26 : decode cX5_moveTo 26 = .ok (.getfield 7, 3) := by decide +kernel
theorem dX5_moveTo_29 : decode cX5_moveTo 29 = .ok (.aload_n 0, 1) := by decide +kernel
theorem dX5_moveTo_30 : decode cX5_moveTo 30 = .ok (.getfield 17, 3) := by decide +kernel
theorem dX5_moveTo_33 : decode cX5_moveTo 33 = .ok (.aload_n 0, 1) := by decide +kernel
theorem dX5_moveTo_34 : decode cX5_moveTo 34 = .ok (.getfield 20, 3) := by decide +kernel
theorem dX5_moveTo_37 : decode cX5_moveTo 37 = .ok (.aload_n 0, 1) := by decide +kernel
theorem dX5_moveTo_38 : decode cX5_moveTo 38 = .ok (.getfield 13, 3) := by decide +kernel
theorem dX5_moveTo_41 : decode cX5_moveTo 41 = .ok (.invokevirtual 40, 3) := by decide +kernel
theorem dX5_moveTo_44 : decode cX5_moveTo 44 = .ok (.aload_n 0, 1) := by decide +kernel
theorem dX5_moveTo_45 : decode cX5_moveTo 45 = .ok (.getfield 23, 3) := by decide +kernel
theorem dX5_moveTo_48 : decode cX5_moveTo 48 = .ok (.if_icmp .gt 16, 3) := by decide +kernel
theorem dX5_moveTo_51 : decode cX5_moveTo 51 = .ok (.aload_n 0, 1) := by decide +kernel
theorem dX5_moveTo_52 : decode cX5_moveTo 52 = .ok (.dup, 1) := by decide +kernel
theorem dX5_moveTo_53 : decode cX5_moveTo 53 = .ok (.getfield 20, 3) := by decide +kernel
theorem dX5_moveTo_56 : decode cX5_moveTo 56 = .ok (.iconst 1, 1) := by decide +kernel
theorem dX5_moveTo_57 : decode cX5_moveTo 57 = .ok (.iadd, 1) := by decide +kernel
theorem dX5_moveTo_58 : decode cX5_moveTo 58 = .ok (.putfield 20, 3) := by decide +kernel
theorem dX5_moveTo_61 : decode cX5_moveTo 61 = .ok (.goto (-44), 3) := by decide +kernel
theorem dX5_moveTo_64 : decode cX5_moveTo 64 = .ok (.return_, 1) := by decide +kernel
abbrev po_c_X5_moveTo (g : GG) (h0 : Nat) (r : Nat) (w : Int) (ab : Int) (nx : Int) (a0 : Int) (bk : Int) (rs : Nat) (it : Nat) (n : Nat) (c : Int) (F : Nat → Int) (fs : Nat → Int32) (fi : Nat → Int32) (x : Int) : Option Value → va_W → Prop := fun v8 w8 => ∃ x2 : Int, v8 = none ∧ w8 = [(h0, ob 5 [.ref r, .int (iI w), .int (iI ab), .int (iI x2), .int (iI x), .int (iI bk)]), (r, ob 2 [.ref rs, .ref it, .int (iI c)]), (rs, aI g 27 fs), (it, aI g n fi)] ∧ (0 ≤ x2 ∧ x2 ≤ 3000) ∧ (TI F fi ab x2 x)
set_option maxHeartbeats 4000000 in
set_option maxRecDepth 100000 in
theorem c_X5_moveTo (l : Launch) (g : GG) (h0 : Nat) (r : Nat) (w : Int) (ab : Int) (nx : Int) (a0 : Int) (bk : Int) (rs : Nat) (it : Nat) (n : Nat) (c : Int) (F : Nat → Int) (fs : Nat → Int32) (fi : Nat → Int32) (x : Int) (hp0 : LB c F fs n) (hp1 : RI w c F fi) (hp2 : -1 ≤ ab ∧ ab < c) (hp3 : 1 ≤ w ∧ w ≤ 3000) (hp4 : 0 ≤ nx ∧ nx ≤ 3000) (hp5 : -1 ≤ x ∧ x ≤ w) : Ct l g yX5_moveTo (wM yX5_moveTo cX5_moveTo 3 none) (rmD 1 0 0) [.ref h0, .int (iI x)] [(h0, ob 5 [.ref r, .int (iI w), .int (iI ab), .int (iI nx), .int (iI a0), .int (iI bk)]), (r, ob 2 [.ref rs, .ref it, .int (iI c)]), (rs, aI g 27 fs), (it, aI g n fi)] (po_c_X5_moveTo g h0 r w ab nx a0 bk rs it n c F fs fi x) := by
  refine Ct_of (by decide +kernel) (Nat.le_of_ble_eq_true rfl) ?_
  intro p9 e9 s9 m9 ag9 bl9 mt9 c9 A9 fx hr hnm
  have hc := LB_c hp0
  have hn := LB_n hp0
  refine v_aload_n fx 0 dX5_moveTo_0 rfl rfl ?_
  refine v_iload_n fx 1 dX5_moveTo_1 rfl rfl ?_
  refine v_put fx 0 4 [(h0, ob 5 [.ref r, .int (iI w), .int (iI ab), .int (iI nx), .int (iI x), .int (iI bk)]), (r, ob 2 [.ref rs, .ref it, .int (iI c)]), (rs, aI g 27 fs), (it, aI g n fi)] inX5 tyX5_ok nmX5 k151 dX5_moveTo_2 rfl rfl (by decide) rfl rfl rfl rfl (nl rfl) rfl rfl ?_
  refine v_aload_n fx 0 dX5_moveTo_5 rfl rfl ?_
  refine v_get fx 0 0 inX5 k147 dX5_moveTo_6 rfl rfl (by decide) rfl rfl rfl ?_
  refine v_aload_n fx 0 dX5_moveTo_9 rfl rfl ?_
  refine v_get fx 0 2 inX5 k149 dX5_moveTo_10 rfl rfl (by decide) rfl rfl rfl ?_
  refine v_callV (As := [.int (iI ab)]) (rest := []) fx [1, 2] [0, 3] [(r, ob 2 [.ref rs, .ref it, .int (iI c)]), (rs, aI g 27 fs)] [(h0, ob 5 [.ref r, .int (iI w), .int (iI ab), .int (iI nx), .int (iI x), .int (iI bk)]), (it, aI g n fi)] 1 0 (c_X2_length l g r rs it n c F fs fi ab (by first | omega | decide | assumption) (by first | omega | decide | assumption)) dX5_moveTo_13 k718 k719 k720 k49 k721 ykX2_length rfl rfl rfl rfl rfl rfl rfl rfl (nl rfl) ⟨nl rfl, nl rfl⟩ ⟨(nl rfl), (nl rfl)⟩ rfl (fun v9 w9 hu => ?_)
  obtain ⟨ln, rfl, rfl, u_1, u_2⟩ := hu
  refine v_is (wn := [(h0, ob 5 [.ref r, .int (iI w), .int (iI ab), .int (iI nx), .int (iI x), .int (iI bk)]), (it, aI g n fi), (r, ob 2 [.ref rs, .ref it, .int (iI c)]), (rs, aI g 27 fs)]) (cn := 0) (sn := 0) (sn2 := [.int (iI ln)]) rfl rfl rfl rfl ?_
  have hln : ln ≤ 3000 := by
    rcases u_1 with ⟨g1, g2, g3⟩ | ⟨g1, g2⟩
    · have := inc_len (RI_at hp1 (x := ab) (by omega)) (by omega); omega
    · omega
  have hl0 := u_1
  refine v_istore_n fx [(2, .int (iI ln)), (0, .ref h0), (1, .int (iI x))] dX5_moveTo_16 (by decide) rfl rfl ?_
  have L17 : ∀ (N : Nat) (y : Int), (0 ≤ y ∧ y ≤ 3000) → ((3000 - y).toNat) < N → V p9 l e9 (rmD 1 0 0) s9 m9 ag9 bl9 mt9 c9 3 g A9 (MQ bl9 (cQ g (po_c_X5_moveTo g h0 r w ab nx a0 bk rs it n c F fs fi x) A9) ag9 s9 0 0 A9) [(h0, ob 5 [.ref r, .int (iI w), .int (iI ab), .int (iI y), .int (iI x), .int (iI bk)]), (r, ob 2 [.ref rs, .ref it, .int (iI c)]), (rs, aI g 27 fs), (it, aI g n fi)] 0 0 [(0, .ref h0), (1, .int (iI x)), (2, .int (iI ln))] 17 [] := by
    intro N
    induction N with
    | zero => intro y hi17_0 hN; exact absurd hN (Nat.not_lt_zero _)
    | succ N ihL17 =>
      intro y hi17_0 hN17
      refine v_aload_n fx 0 dX5_moveTo_17 rfl rfl ?_
      refine v_get fx 0 3 inX5 k150 dX5_moveTo_18 rfl rfl (by decide) rfl rfl rfl ?_
      refine v_iload_n fx 2 dX5_moveTo_21 rfl rfl ?_
      refine v_icmp_ge fx 64 dX5_moveTo_22 (by decide) rfl (by omega) (by omega) (fun h_3 => ?_) (fun h_3 => ?_)
      ·
        have hTI : TI F fi ab y x := TI_end (fun h => by omega)
        exact v_vret fx [(h0, ob 5 [.ref r, .int (iI w), .int (iI ab), .int (iI y), .int (iI x), .int (iI bk)]), (r, ob 2 [.ref rs, .ref it, .int (iI c)]), (rs, aI g 27 fs), (it, aI g n fi)] [0, 1, 2, 3] hr dX5_moveTo_64 rfl rfl (nl rfl) (nl rfl) ⟨y, rfl, rfl, (by first | omega | rfl | assumption), (by exact hTI)⟩
      ·
        refine v_aload_n fx 0 dX5_moveTo_25 rfl rfl ?_
        refine v_get fx 0 0 inX5 k147 dX5_moveTo_26 rfl rfl (by decide) rfl rfl rfl ?_
        refine v_aload_n fx 0 dX5_moveTo_29 rfl rfl ?_
        refine v_get fx 0 2 inX5 k149 dX5_moveTo_30 rfl rfl (by decide) rfl rfl rfl ?_
        refine v_aload_n fx 0 dX5_moveTo_33 rfl rfl ?_
        refine v_get fx 0 3 inX5 k150 dX5_moveTo_34 rfl rfl (by decide) rfl rfl rfl ?_
        refine v_aload_n fx 0 dX5_moveTo_37 rfl rfl ?_
        refine v_get fx 0 1 inX5 k148 dX5_moveTo_38 rfl rfl (by decide) rfl rfl rfl ?_
        refine v_callV (As := [.int (iI ab), .int (iI y), .int (iI w)]) (rest := []) fx [1, 2, 3] [0] [(r, ob 2 [.ref rs, .ref it, .int (iI c)]), (rs, aI g 27 fs), (it, aI g n fi)] [(h0, ob 5 [.ref r, .int (iI w), .int (iI ab), .int (iI y), .int (iI x), .int (iI bk)])] 3 0 (c_X2_item l g r rs it n c F fs fi ab y w (by first | omega | decide | assumption) (by first | omega | decide | assumption) (by first | omega | decide | assumption) (by first | omega | decide | assumption)) dX5_moveTo_41 k697 k686 k687 k49 k688 ykX2_item rfl rfl rfl rfl rfl rfl rfl rfl (nl rfl) ⟨nl rfl, nl rfl⟩ ⟨(nl rfl), (nl rfl)⟩ rfl (fun v9 w9 hu => ?_)
        obtain ⟨rr, rfl, rfl, u_4, u_5⟩ := hu
        refine v_is (wn := [(h0, ob 5 [.ref r, .int (iI w), .int (iI ab), .int (iI y), .int (iI x), .int (iI bk)]), (r, ob 2 [.ref rs, .ref it, .int (iI c)]), (rs, aI g 27 fs), (it, aI g n fi)]) (cn := 0) (sn := 0) (sn2 := [.int (iI rr)]) rfl rfl rfl rfl ?_
        have hr0 := itm_or (F := F) (fi := fi) (c := c) (d := w) (x := ab) (k := y)
        refine v_aload_n fx 0 dX5_moveTo_44 rfl rfl ?_
        refine v_get fx 0 4 inX5 k151 dX5_moveTo_45 rfl rfl (by decide) rfl rfl rfl ?_
        refine v_icmp_gt fx 64 dX5_moveTo_48 (by decide) rfl (by omega) (by omega) (fun h_6 => ?_) (fun h_6 => ?_)
        ·
          have hTI : TI F fi ab y x := by
            rcases hr0 with ⟨g1, g2, g3, g4, g5⟩ | ⟨g1, g2⟩
            · exact TI_at (RI_at hp1 (x := ab) (by omega)) (by omega) (by omega)
            · exact TI_end (fun h => by omega)
          exact v_vret fx [(h0, ob 5 [.ref r, .int (iI w), .int (iI ab), .int (iI y), .int (iI x), .int (iI bk)]), (r, ob 2 [.ref rs, .ref it, .int (iI c)]), (rs, aI g 27 fs), (it, aI g n fi)] [0, 1, 2, 3] hr dX5_moveTo_64 rfl rfl (nl rfl) (nl rfl) ⟨y, rfl, rfl, (by first | omega | rfl | assumption), (by exact hTI)⟩
        ·
          refine v_aload_n fx 0 dX5_moveTo_51 rfl rfl ?_
          refine v_dup fx dX5_moveTo_52 rfl rfl ?_
          refine v_get fx 0 3 inX5 k150 dX5_moveTo_53 rfl rfl (by decide) rfl rfl rfl ?_
          refine v_iconst fx dX5_moveTo_56 rfl ?_
          refine v_iadd fx (y + 1) dX5_moveTo_57 (by rfl) rfl ?_
          refine v_put fx 0 3 [(h0, ob 5 [.ref r, .int (iI w), .int (iI ab), .int (iI (y + 1)), .int (iI x), .int (iI bk)]), (r, ob 2 [.ref rs, .ref it, .int (iI c)]), (rs, aI g 27 fs), (it, aI g n fi)] inX5 tyX5_ok nmX5 k150 dX5_moveTo_58 rfl rfl (by decide) rfl rfl rfl rfl (nl rfl) rfl rfl ?_
          refine v_goto fx 17 dX5_moveTo_61 (by decide) ?_
          exact ihL17 (y + 1) (by omega) (by omega)
  refine v_ws [0, 2, 3, 1] [(h0, ob 5 [.ref r, .int (iI w), .int (iI ab), .int (iI nx), .int (iI x), .int (iI bk)]), (r, ob 2 [.ref rs, .ref it, .int (iI c)]), (rs, aI g 27 fs), (it, aI g n fi)] rfl rfl ?_
  refine v_lv [1, 2, 0] [(0, .ref h0), (1, .int (iI x)), (2, .int (iI ln))] rfl ?_
  exact L17 _ nx (by omega) (Nat.lt_succ_self _)
theorem dX5_turnAt_0 : decode cX5_turnAt 0 = .ok (.aload_n 0, 1) := by decide +kernel
theorem dX5_turnAt_1 : decode cX5_turnAt 1 = .ok (.iload_n 1, 1) := by decide +kernel
theorem dX5_turnAt_2 : decode cX5_turnAt 2 = .ok (.invokevirtual 50, 3) := by decide +kernel
theorem dX5_turnAt_5 : decode cX5_turnAt 5 = .ok (.aload_n 0, 1) := by decide +kernel
theorem dX5_turnAt_6 : decode cX5_turnAt 6 = .ok (.aload_n 0, 1) := by decide +kernel
theorem dX5_turnAt_7 : decode cX5_turnAt 7 = .ok (.getfield 26, 3) := by decide +kernel
theorem dX5_turnAt_10 : decode cX5_turnAt 10 = .ok (.ifCond .ne 7, 3) := by decide +kernel
theorem dX5_turnAt_13 : decode cX5_turnAt 13 = .ok (.iconst 1, 1) := by decide +kernel
theorem dX5_turnAt_14 : decode cX5_turnAt 14 = .ok (.goto 4, 3) := by decide +kernel
theorem dX5_turnAt_17 : decode cX5_turnAt 17 = .ok (.iconst 0, 1) := by decide +kernel
theorem dX5_turnAt_18 : decode cX5_turnAt 18 = .ok (.putfield 26, 3) := by decide +kernel
theorem dX5_turnAt_21 : decode cX5_turnAt 21 = .ok (.return_, 1) := by decide +kernel
abbrev po_c_X5_turnAt (g : GG) (h0 : Nat) (r : Nat) (w : Int) (ab : Int) (nx : Int) (a0 : Int) (bk : Int) (rs : Nat) (it : Nat) (n : Nat) (c : Int) (F : Nat → Int) (fs : Nat → Int32) (fi : Nat → Int32) (x : Int) : Option Value → va_W → Prop := fun v8 w8 => ∃ x2 : Int, ∃ k2 : Int, v8 = none ∧ w8 = [(h0, ob 5 [.ref r, .int (iI w), .int (iI ab), .int (iI x2), .int (iI x), .int (iI k2)]), (r, ob 2 [.ref rs, .ref it, .int (iI c)]), (rs, aI g 27 fs), (it, aI g n fi)] ∧ (0 ≤ x2 ∧ x2 ≤ 3000) ∧ (TI F fi ab x2 x) ∧ (k2 = 1 - bk)
set_option maxHeartbeats 4000000 in
set_option maxRecDepth 100000 in
theorem c_X5_turnAt (l : Launch) (g : GG) (h0 : Nat) (r : Nat) (w : Int) (ab : Int) (nx : Int) (a0 : Int) (bk : Int) (rs : Nat) (it : Nat) (n : Nat) (c : Int) (F : Nat → Int) (fs : Nat → Int32) (fi : Nat → Int32) (x : Int) (hp0 : LB c F fs n) (hp1 : RI w c F fi) (hp2 : -1 ≤ ab ∧ ab < c) (hp3 : 1 ≤ w ∧ w ≤ 3000) (hp4 : 0 ≤ nx ∧ nx ≤ 3000) (hp5 : -1 ≤ x ∧ x ≤ w) (hp6 : 0 ≤ bk ∧ bk ≤ 1) : Ct l g yX5_turnAt (wM yX5_turnAt cX5_turnAt 2 none) (rmD 2 0 0) [.ref h0, .int (iI x)] [(h0, ob 5 [.ref r, .int (iI w), .int (iI ab), .int (iI nx), .int (iI a0), .int (iI bk)]), (r, ob 2 [.ref rs, .ref it, .int (iI c)]), (rs, aI g 27 fs), (it, aI g n fi)] (po_c_X5_turnAt g h0 r w ab nx a0 bk rs it n c F fs fi x) := by
  refine Ct_of (by decide +kernel) (Nat.le_of_ble_eq_true rfl) ?_
  intro p9 e9 s9 m9 ag9 bl9 mt9 c9 A9 fx hr hnm
  refine v_aload_n fx 0 dX5_turnAt_0 rfl rfl ?_
  refine v_iload_n fx 1 dX5_turnAt_1 rfl rfl ?_
  refine v_callV (As := [.int (iI x)]) (rest := []) fx [0, 1, 2, 3] [] [(h0, ob 5 [.ref r, .int (iI w), .int (iI ab), .int (iI nx), .int (iI a0), .int (iI bk)]), (r, ob 2 [.ref rs, .ref it, .int (iI c)]), (rs, aI g 27 fs), (it, aI g n fi)] [] 1 0 (c_X5_moveTo l g h0 r w ab nx a0 bk rs it n c F fs fi x (by first | omega | decide | assumption) (by first | omega | decide | assumption) (by first | omega | decide | assumption) (by first | omega | decide | assumption) (by first | omega | decide | assumption) (by first | omega | decide | assumption)) dX5_turnAt_2 k726 k715 k716 k52 k717 ykX5_moveTo rfl rfl rfl rfl rfl rfl rfl rfl (nl rfl) ⟨nl rfl, nl rfl⟩ ⟨(nl rfl), (nl rfl)⟩ rfl (fun v9 w9 hu => ?_)
  obtain ⟨x2_1, rfl, rfl, u_2, u_3⟩ := hu
  refine v_is (wn := [(h0, ob 5 [.ref r, .int (iI w), .int (iI ab), .int (iI x2_1), .int (iI x), .int (iI bk)]), (r, ob 2 [.ref rs, .ref it, .int (iI c)]), (rs, aI g 27 fs), (it, aI g n fi)]) (cn := 0) (sn := 0) (sn2 := []) rfl rfl rfl rfl ?_
  refine v_aload_n fx 0 dX5_turnAt_5 rfl rfl ?_
  refine v_aload_n fx 0 dX5_turnAt_6 rfl rfl ?_
  refine v_get fx 0 5 inX5 k152 dX5_turnAt_7 rfl rfl (by decide) rfl rfl rfl ?_
  refine v_if_ne fx 17 dX5_turnAt_10 (by decide) rfl (by omega) (fun h_4 => ?_) (fun h_4 => ?_)
  ·
    refine v_iconst fx dX5_turnAt_17 rfl ?_
    refine v_put fx 0 5 [(h0, ob 5 [.ref r, .int (iI w), .int (iI ab), .int (iI x2_1), .int (iI x), .int (iI 0)]), (r, ob 2 [.ref rs, .ref it, .int (iI c)]), (rs, aI g 27 fs), (it, aI g n fi)] inX5 tyX5_ok nmX5 k152 dX5_turnAt_18 rfl rfl (by decide) rfl rfl rfl rfl (nl rfl) rfl rfl ?_
    exact v_vret fx [(h0, ob 5 [.ref r, .int (iI w), .int (iI ab), .int (iI x2_1), .int (iI x), .int (iI 0)]), (r, ob 2 [.ref rs, .ref it, .int (iI c)]), (rs, aI g 27 fs), (it, aI g n fi)] [0, 1, 2, 3] hr dX5_turnAt_21 rfl rfl (nl rfl) (nl rfl) ⟨x2_1, 0, rfl, rfl, (by first | omega | rfl | assumption), (by assumption), (by first | omega | rfl | assumption)⟩
  ·
    refine v_iconst fx dX5_turnAt_13 rfl ?_
    refine v_goto fx 18 dX5_turnAt_14 (by decide) ?_
    refine v_put fx 0 5 [(h0, ob 5 [.ref r, .int (iI w), .int (iI ab), .int (iI x2_1), .int (iI x), .int (iI 1)]), (r, ob 2 [.ref rs, .ref it, .int (iI c)]), (rs, aI g 27 fs), (it, aI g n fi)] inX5 tyX5_ok nmX5 k152 dX5_turnAt_18 rfl rfl (by decide) rfl rfl rfl rfl (nl rfl) rfl rfl ?_
    exact v_vret fx [(h0, ob 5 [.ref r, .int (iI w), .int (iI ab), .int (iI x2_1), .int (iI x), .int (iI 1)]), (r, ob 2 [.ref rs, .ref it, .int (iI c)]), (rs, aI g 27 fs), (it, aI g n fi)] [0, 1, 2, 3] hr dX5_turnAt_21 rfl rfl (nl rfl) (nl rfl) ⟨x2_1, 1, rfl, rfl, (by first | omega | rfl | assumption), (by assumption), (by first | omega | rfl | assumption)⟩
theorem dX6_runCode_0 : decode cX6_runCode 0 = .ok (.iload_n 2, 1) := by decide +kernel
theorem dX6_runCode_1 : decode cX6_runCode 1 = .ok (.ifCond .eq 9, 3) := by decide +kernel
theorem dX6_runCode_4 : decode cX6_runCode 4 = .ok (.getstatic 109, 3) := by decide +kernel
theorem dX6_runCode_7 : decode cX6_runCode 7 = .ok (.goto 6, 3) := by decide +kernel
theorem dX6_runCode_10 : decode cX6_runCode 10 = .ok (.getstatic 112, 3) := by decide +kernel
theorem dX6_runCode_13 : decode cX6_runCode 13 = .ok (.astore_n 3, 1) := by decide +kernel
theorem dX6_runCode_14 : decode cX6_runCode 14 = .ok (.iload_n 1, 1) := by decide +kernel
theorem dX6_runCode_15 : decode cX6_runCode 15 = .ok (.aload_n 3, 1) := by decide +kernel
theorem dX6_runCode_16 : decode cX6_runCode 16 = .ok (.arraylength, 1) := by decide +kernel
theorem dX6_runCode_17 : decode cX6_runCode 17 = .ok (.isub, 1) := by decide +kernel
theorem dX6_runCode_18 : decode cX6_runCode 18 = .ok (.istore 4, 2) := by decide +kernel
theorem dX6_runCode_20 : decode cX6_runCode 20 = .ok (.iload_n 1, 1) := by decide +kernel
theorem dX6_runCode_21 : decode cX6_runCode 21 = .ok (.ifCond .lt 12, 3) := by decide +kernel
theorem dX6_runCode_24 : decode cX6_runCode 24 = .ok (.iload 4, 2) := by decide +kernel
theorem dX6_runCode_26 : decode cX6_runCode 26 = .ok (.ifCond .ge 7, 3) := by decide +kernel
theorem dX6_runCode_29 : decode cX6_runCode 29 = .ok (.aload_n 3, 1) := by decide +kernel
theorem dX6_runCode_30 : decode cX6_runCode 30 = .ok (.iload_n 1, 1) := by decide +kernel
theorem dX6_runCode_31 : decode cX6_runCode 31 = .ok (.iaload, 1) := by decide +kernel
theorem dX6_runCode_32 : decode cX6_runCode 32 = .ok (.ireturn, 1) := by decide +kernel
theorem dX6_runCode_33 : decode cX6_runCode 33 = .ok (.iload 4, 2) := by decide +kernel
theorem dX6_runCode_35 : decode cX6_runCode 35 = .ok (.ifCond .lt 21, 3) := by decide +kernel
theorem dX6_runCode_38 : decode cX6_runCode 38 = .ok (.iload 4, 2) := by decide +kernel
theorem dX6_runCode_40 : decode cX6_runCode 40 = .ok (.getstatic 115, 3) := by decide +kernel
theorem dX6_runCode_43 : decode cX6_runCode 43 = .ok (.arraylength, 1) := by decide +kernel
theorem dX6_runCode_44 : decode cX6_runCode 44 = .ok (.if_icmp .ge 12, 3) := by decide +kernel
theorem dX6_runCode_47 : decode cX6_runCode 47 = .ok (.getstatic 115, 3) := by decide +kernel
theorem dX6_runCode_50 : decode cX6_runCode 50 = .ok (.iload 4, 2) := by decide +kernel
theorem dX6_runCode_52 : decode cX6_runCode 52 = .ok (.iaload, 1) := by decide +kernel
theorem dX6_runCode_53 : decode cX6_runCode 53 = .ok (.goto 4, 3) := by decide +kernel
theorem dX6_runCode_56 : decode cX6_runCode 56 = .ok (.iconst 1, 1) := by decide +kernel
theorem dX6_runCode_57 : decode cX6_runCode 57 = .ok (.ireturn, 1) := by decide +kernel
abbrev po_c_X6_runCode (g : GG) (h0 : Nat) (r : Nat) (o : Nat) (td : Nat) (w : Int) (x : Int) (bk : Int) : Option Value → va_W → Prop := fun v8 w8 => ∃ q : Int, v8 = some (.int (iI q)) ∧ w8 = [(h0, ob 6 [.ref r, .int (iI w), .ref o, .ref td])] ∧ (1 ≤ q ∧ q < 16384) ∧ ((clen q : Int) ≤ rbB x bk)
set_option maxHeartbeats 4000000 in
set_option maxRecDepth 100000 in
theorem c_X6_runCode (l : Launch) (g : GG) (h0 : Nat) (r : Nat) (o : Nat) (td : Nat) (w : Int) (x : Int) (bk : Int) (hp0 : 0 ≤ x ∧ x ≤ 200) (hp1 : 0 ≤ bk ∧ bk ≤ 1) : Ct l g yX6_runCode (wM yX6_runCode cX6_runCode 5 (some .int)) (rmD 0 0 0) [.ref h0, .int (iI x), .int (iI bk)] [(h0, ob 6 [.ref r, .int (iI w), .ref o, .ref td])] (po_c_X6_runCode g h0 r o td w x bk) := by
  refine Ct_of (by decide +kernel) (Nat.le_of_ble_eq_true rfl) ?_
  intro p9 e9 s9 m9 ag9 bl9 mt9 c9 A9 fx hr hnm
  refine v_iload_n fx 2 dX6_runCode_0 rfl rfl ?_
  refine v_if_eq fx 10 dX6_runCode_1 (by decide) rfl (by omega) (fun h_1 => ?_) (fun h_1 => ?_)
  ·
    refine v_getsN fx 0 (by decide) n745 dX6_runCode_10 rfl ?_
    refine v_astore_n fx [(3, .ref (g.2.2.1 0)), (0, .ref h0), (1, .int (iI x)), (2, .int (iI bk))] dX6_runCode_13 (by decide) rfl rfl ?_
    refine v_iload_n fx 2 dX6_runCode_14 rfl rfl ?_
    refine v_aload_n fx 0 dX6_runCode_15 rfl rfl ?_
    refine v_tlen (n := 91) fx 0 (by decide) rfl dX6_runCode_16 rfl ?_
    refine v_isub fx (x - 91) dX6_runCode_17 (by rfl) rfl ?_
    refine v_istore fx [(4, .int (iI (x - 91))), (3, .ref (g.2.2.1 0)), (0, .ref h0), (1, .int (iI x)), (2, .int (iI bk))] dX6_runCode_18 (by decide) rfl rfl ?_
    refine v_iload_n fx 3 dX6_runCode_20 rfl rfl ?_
    refine v_if_lt fx 33 dX6_runCode_21 (by decide) rfl (by omega) (fun h_2 => ?_) (fun h_2 => ?_)
    ·
      refine v_iload fx 0 dX6_runCode_33 rfl rfl ?_
      refine v_if_lt fx 56 dX6_runCode_35 (by decide) rfl (by omega) (fun h_3 => ?_) (fun h_3 => ?_)
      ·
        refine v_iconst fx dX6_runCode_56 rfl ?_
        exact v_iret fx [(h0, ob 6 [.ref r, .int (iI w), .ref o, .ref td])] [0] hr dX6_runCode_57 rfl rfl (nl rfl) (nl rfl) ⟨1, rfl, rfl, (by first | omega | rfl | assumption), (by first | exact rbB_of (by omega) ⟨fun h => by omega, fun h1 h2 => by omega⟩ (by have := clen13 ht2; omega) | exact rbB_of (by omega) ⟨fun h => by omega, fun h1 h2 => by omega⟩ (by decide))⟩
      ·
        refine v_iload fx 0 dX6_runCode_38 rfl rfl ?_
        refine v_getsN fx 2 (by decide) n746 dX6_runCode_40 rfl ?_
        refine v_tlen (n := 13) fx 2 (by decide) rfl dX6_runCode_43 rfl ?_
        refine v_icmp_ge fx 56 dX6_runCode_44 (by decide) rfl (by omega) (by omega) (fun h_4 => ?_) (fun h_4 => ?_)
        ·
          refine v_iconst fx dX6_runCode_56 rfl ?_
          exact v_iret fx [(h0, ob 6 [.ref r, .int (iI w), .ref o, .ref td])] [0] hr dX6_runCode_57 rfl rfl (nl rfl) (nl rfl) ⟨1, rfl, rfl, (by first | omega | rfl | assumption), (by first | exact rbB_of (by omega) ⟨fun h => by omega, fun h1 h2 => by omega⟩ (by have := clen13 ht2; omega) | exact rbB_of (by omega) ⟨fun h => by omega, fun h1 h2 => by omega⟩ (by decide))⟩
        ·
          refine v_getsN fx 2 (by decide) n746 dX6_runCode_47 rfl ?_
          refine v_iload fx 0 dX6_runCode_50 rfl rfl ?_
          refine v_tald fx 2 (by first | decide | omega) (by refine ⟨by omega, ?_⟩; show x - 91 < 13; omega) dX6_runCode_52 rfl ?_
          refine v_any (fun z_5 hz_5 ez_5 => ?_)
          have ht2 := tabl_at (by omega) ez_5 hz_5
          refine v_goto fx 57 dX6_runCode_53 (by decide) ?_
          exact v_iret fx [(h0, ob 6 [.ref r, .int (iI w), .ref o, .ref td])] [0] hr dX6_runCode_57 rfl rfl (nl rfl) (nl rfl) ⟨z_5, rfl, rfl, (by first | omega | rfl | assumption), (by first | exact rbB_of (by omega) ⟨fun h => by omega, fun h1 h2 => by omega⟩ (by have := clen13 ht2; omega) | exact rbB_of (by omega) ⟨fun h => by omega, fun h1 h2 => by omega⟩ (by decide))⟩
    ·
      refine v_iload fx 0 dX6_runCode_24 rfl rfl ?_
      refine v_if_ge fx 33 dX6_runCode_26 (by decide) rfl (by omega) (fun h_6 => ?_) (fun h_6 => ?_)
      ·
        refine v_iload fx 0 dX6_runCode_33 rfl rfl ?_
        refine v_if_lt fx 56 dX6_runCode_35 (by decide) rfl (by omega) (fun h_7 => ?_) (fun h_7 => ?_)
        ·
          refine v_iconst fx dX6_runCode_56 rfl ?_
          exact v_iret fx [(h0, ob 6 [.ref r, .int (iI w), .ref o, .ref td])] [0] hr dX6_runCode_57 rfl rfl (nl rfl) (nl rfl) ⟨1, rfl, rfl, (by first | omega | rfl | assumption), (by first | exact rbB_of (by omega) ⟨fun h => by omega, fun h1 h2 => by omega⟩ (by have := clen13 ht2; omega) | exact rbB_of (by omega) ⟨fun h => by omega, fun h1 h2 => by omega⟩ (by decide))⟩
        ·
          refine v_iload fx 0 dX6_runCode_38 rfl rfl ?_
          refine v_getsN fx 2 (by decide) n746 dX6_runCode_40 rfl ?_
          refine v_tlen (n := 13) fx 2 (by decide) rfl dX6_runCode_43 rfl ?_
          refine v_icmp_ge fx 56 dX6_runCode_44 (by decide) rfl (by omega) (by omega) (fun h_8 => ?_) (fun h_8 => ?_)
          ·
            refine v_iconst fx dX6_runCode_56 rfl ?_
            exact v_iret fx [(h0, ob 6 [.ref r, .int (iI w), .ref o, .ref td])] [0] hr dX6_runCode_57 rfl rfl (nl rfl) (nl rfl) ⟨1, rfl, rfl, (by first | omega | rfl | assumption), (by first | exact rbB_of (by omega) ⟨fun h => by omega, fun h1 h2 => by omega⟩ (by have := clen13 ht2; omega) | exact rbB_of (by omega) ⟨fun h => by omega, fun h1 h2 => by omega⟩ (by decide))⟩
          ·
            refine v_getsN fx 2 (by decide) n746 dX6_runCode_47 rfl ?_
            refine v_iload fx 0 dX6_runCode_50 rfl rfl ?_
            refine v_tald fx 2 (by first | decide | omega) (by refine ⟨by omega, ?_⟩; show x - 91 < 13; omega) dX6_runCode_52 rfl ?_
            refine v_any (fun z_9 hz_9 ez_9 => ?_)
            have ht2 := tabl_at (by omega) ez_9 hz_9
            refine v_goto fx 57 dX6_runCode_53 (by decide) ?_
            exact v_iret fx [(h0, ob 6 [.ref r, .int (iI w), .ref o, .ref td])] [0] hr dX6_runCode_57 rfl rfl (nl rfl) (nl rfl) ⟨z_9, rfl, rfl, (by first | omega | rfl | assumption), (by first | exact rbB_of (by omega) ⟨fun h => by omega, fun h1 h2 => by omega⟩ (by have := clen13 ht2; omega) | exact rbB_of (by omega) ⟨fun h => by omega, fun h1 h2 => by omega⟩ (by decide))⟩
      ·
        refine v_aload_n fx 1 dX6_runCode_29 rfl rfl ?_
        refine v_iload_n fx 3 dX6_runCode_30 rfl rfl ?_
        refine v_tald fx 0 (by first | decide | omega) (by refine ⟨by omega, ?_⟩; show x < 91; omega) dX6_runCode_31 rfl ?_
        refine v_any (fun z_10 hz_10 ez_10 => ?_)
        have ht1 : (1 ≤ z_10 ∧ z_10 < 16384) ∧ (x = 0 → (clen z_10 : Int) ≤ 10) ∧ (1 ≤ x → x < 64 → (clen z_10 : Int) ≤ 7 * x - 1 - bk) := by
                  first | exact (show bk = 1 by omega) ▸ tab_at tab_b (by omega) ez_10 hz_10 | exact (show bk = 0 by omega) ▸ tab_at tab_w (by omega) ez_10 hz_10
        exact v_iret fx [(h0, ob 6 [.ref r, .int (iI w), .ref o, .ref td])] [0] hr dX6_runCode_32 rfl rfl (nl rfl) (nl rfl) ⟨z_10, rfl, rfl, (by exact ht1.1), (by exact rbB_of (by omega) ht1.2 (by have := clen13 ht1.1; omega))⟩
  ·
    refine v_getsN fx 1 (by decide) n744 dX6_runCode_4 rfl ?_
    refine v_goto fx 13 dX6_runCode_7 (by decide) ?_
    refine v_astore_n fx [(3, .ref (g.2.2.1 1)), (0, .ref h0), (1, .int (iI x)), (2, .int (iI bk))] dX6_runCode_13 (by decide) rfl rfl ?_
    refine v_iload_n fx 2 dX6_runCode_14 rfl rfl ?_
    refine v_aload_n fx 0 dX6_runCode_15 rfl rfl ?_
    refine v_tlen (n := 91) fx 1 (by decide) rfl dX6_runCode_16 rfl ?_
    refine v_isub fx (x - 91) dX6_runCode_17 (by rfl) rfl ?_
    refine v_istore fx [(4, .int (iI (x - 91))), (3, .ref (g.2.2.1 1)), (0, .ref h0), (1, .int (iI x)), (2, .int (iI bk))] dX6_runCode_18 (by decide) rfl rfl ?_
    refine v_iload_n fx 3 dX6_runCode_20 rfl rfl ?_
    refine v_if_lt fx 33 dX6_runCode_21 (by decide) rfl (by omega) (fun h_11 => ?_) (fun h_11 => ?_)
    ·
      refine v_iload fx 0 dX6_runCode_33 rfl rfl ?_
      refine v_if_lt fx 56 dX6_runCode_35 (by decide) rfl (by omega) (fun h_12 => ?_) (fun h_12 => ?_)
      ·
        refine v_iconst fx dX6_runCode_56 rfl ?_
        exact v_iret fx [(h0, ob 6 [.ref r, .int (iI w), .ref o, .ref td])] [0] hr dX6_runCode_57 rfl rfl (nl rfl) (nl rfl) ⟨1, rfl, rfl, (by first | omega | rfl | assumption), (by first | exact rbB_of (by omega) ⟨fun h => by omega, fun h1 h2 => by omega⟩ (by have := clen13 ht2; omega) | exact rbB_of (by omega) ⟨fun h => by omega, fun h1 h2 => by omega⟩ (by decide))⟩
      ·
        refine v_iload fx 0 dX6_runCode_38 rfl rfl ?_
        refine v_getsN fx 2 (by decide) n746 dX6_runCode_40 rfl ?_
        refine v_tlen (n := 13) fx 2 (by decide) rfl dX6_runCode_43 rfl ?_
        refine v_icmp_ge fx 56 dX6_runCode_44 (by decide) rfl (by omega) (by omega) (fun h_13 => ?_) (fun h_13 => ?_)
        ·
          refine v_iconst fx dX6_runCode_56 rfl ?_
          exact v_iret fx [(h0, ob 6 [.ref r, .int (iI w), .ref o, .ref td])] [0] hr dX6_runCode_57 rfl rfl (nl rfl) (nl rfl) ⟨1, rfl, rfl, (by first | omega | rfl | assumption), (by first | exact rbB_of (by omega) ⟨fun h => by omega, fun h1 h2 => by omega⟩ (by have := clen13 ht2; omega) | exact rbB_of (by omega) ⟨fun h => by omega, fun h1 h2 => by omega⟩ (by decide))⟩
        ·
          refine v_getsN fx 2 (by decide) n746 dX6_runCode_47 rfl ?_
          refine v_iload fx 0 dX6_runCode_50 rfl rfl ?_
          refine v_tald fx 2 (by first | decide | omega) (by refine ⟨by omega, ?_⟩; show x - 91 < 13; omega) dX6_runCode_52 rfl ?_
          refine v_any (fun z_14 hz_14 ez_14 => ?_)
          have ht2 := tabl_at (by omega) ez_14 hz_14
          refine v_goto fx 57 dX6_runCode_53 (by decide) ?_
          exact v_iret fx [(h0, ob 6 [.ref r, .int (iI w), .ref o, .ref td])] [0] hr dX6_runCode_57 rfl rfl (nl rfl) (nl rfl) ⟨z_14, rfl, rfl, (by first | omega | rfl | assumption), (by first | exact rbB_of (by omega) ⟨fun h => by omega, fun h1 h2 => by omega⟩ (by have := clen13 ht2; omega) | exact rbB_of (by omega) ⟨fun h => by omega, fun h1 h2 => by omega⟩ (by decide))⟩
    ·
      refine v_iload fx 0 dX6_runCode_24 rfl rfl ?_
      refine v_if_ge fx 33 dX6_runCode_26 (by decide) rfl (by omega) (fun h_15 => ?_) (fun h_15 => ?_)
      ·
        refine v_iload fx 0 dX6_runCode_33 rfl rfl ?_
        refine v_if_lt fx 56 dX6_runCode_35 (by decide) rfl (by omega) (fun h_16 => ?_) (fun h_16 => ?_)
        ·
          refine v_iconst fx dX6_runCode_56 rfl ?_
          exact v_iret fx [(h0, ob 6 [.ref r, .int (iI w), .ref o, .ref td])] [0] hr dX6_runCode_57 rfl rfl (nl rfl) (nl rfl) ⟨1, rfl, rfl, (by first | omega | rfl | assumption), (by first | exact rbB_of (by omega) ⟨fun h => by omega, fun h1 h2 => by omega⟩ (by have := clen13 ht2; omega) | exact rbB_of (by omega) ⟨fun h => by omega, fun h1 h2 => by omega⟩ (by decide))⟩
        ·
          refine v_iload fx 0 dX6_runCode_38 rfl rfl ?_
          refine v_getsN fx 2 (by decide) n746 dX6_runCode_40 rfl ?_
          refine v_tlen (n := 13) fx 2 (by decide) rfl dX6_runCode_43 rfl ?_
          refine v_icmp_ge fx 56 dX6_runCode_44 (by decide) rfl (by omega) (by omega) (fun h_17 => ?_) (fun h_17 => ?_)
          ·
            refine v_iconst fx dX6_runCode_56 rfl ?_
            exact v_iret fx [(h0, ob 6 [.ref r, .int (iI w), .ref o, .ref td])] [0] hr dX6_runCode_57 rfl rfl (nl rfl) (nl rfl) ⟨1, rfl, rfl, (by first | omega | rfl | assumption), (by first | exact rbB_of (by omega) ⟨fun h => by omega, fun h1 h2 => by omega⟩ (by have := clen13 ht2; omega) | exact rbB_of (by omega) ⟨fun h => by omega, fun h1 h2 => by omega⟩ (by decide))⟩
          ·
            refine v_getsN fx 2 (by decide) n746 dX6_runCode_47 rfl ?_
            refine v_iload fx 0 dX6_runCode_50 rfl rfl ?_
            refine v_tald fx 2 (by first | decide | omega) (by refine ⟨by omega, ?_⟩; show x - 91 < 13; omega) dX6_runCode_52 rfl ?_
            refine v_any (fun z_18 hz_18 ez_18 => ?_)
            have ht2 := tabl_at (by omega) ez_18 hz_18
            refine v_goto fx 57 dX6_runCode_53 (by decide) ?_
            exact v_iret fx [(h0, ob 6 [.ref r, .int (iI w), .ref o, .ref td])] [0] hr dX6_runCode_57 rfl rfl (nl rfl) (nl rfl) ⟨z_18, rfl, rfl, (by first | omega | rfl | assumption), (by first | exact rbB_of (by omega) ⟨fun h => by omega, fun h1 h2 => by omega⟩ (by have := clen13 ht2; omega) | exact rbB_of (by omega) ⟨fun h => by omega, fun h1 h2 => by omega⟩ (by decide))⟩
      ·
        refine v_aload_n fx 1 dX6_runCode_29 rfl rfl ?_
        refine v_iload_n fx 3 dX6_runCode_30 rfl rfl ?_
        refine v_tald fx 1 (by first | decide | omega) (by refine ⟨by omega, ?_⟩; show x < 91; omega) dX6_runCode_31 rfl ?_
        refine v_any (fun z_19 hz_19 ez_19 => ?_)
        have ht1 : (1 ≤ z_19 ∧ z_19 < 16384) ∧ (x = 0 → (clen z_19 : Int) ≤ 10) ∧ (1 ≤ x → x < 64 → (clen z_19 : Int) ≤ 7 * x - 1 - bk) := by
                  first | exact (show bk = 1 by omega) ▸ tab_at tab_b (by omega) ez_19 hz_19 | exact (show bk = 0 by omega) ▸ tab_at tab_w (by omega) ez_19 hz_19
        exact v_iret fx [(h0, ob 6 [.ref r, .int (iI w), .ref o, .ref td])] [0] hr dX6_runCode_32 rfl rfl (nl rfl) (nl rfl) ⟨z_19, rfl, rfl, (by exact ht1.1), (by exact rbB_of (by omega) ht1.2 (by have := clen13 ht1.1; omega))⟩
