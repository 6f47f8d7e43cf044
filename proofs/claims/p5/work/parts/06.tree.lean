/-! THE CODE TREE, in general -/
theorem nl {a b : Nat} (h : Nat.ble a b = true) : a ≤ b := Nat.le_of_ble_eq_true h
theorem nar_z (z : Int) (h : 0 ≤ z ∧ z ≤ 1) : narrow .boolean (.int (iI z)) = .int (iI z) := by
  rcases (show z = 0 ∨ z = 1 by omega) with rfl | rfl <;> decide
theorem fit_z (z : Int) (h : 0 ≤ z ∧ z ≤ 1) : fits .boolean (.int (iI z)) = true := by
  rcases (show z = 0 ∨ z = 1 by omega) with rfl | rfl <;> decide
/-- no entry of a tree is below -105: codes have the numbers 0 .. 104 -/
def lo (f : Nat → Int32) : Prop := ∀ i, -105 ≤ (f i).toInt
theorem lo_0 : lo (fun _ => 0) := fun _ => (by decide : (-105 : Int) ≤ (0 : Int32).toInt)
theorem lo_upd {f : Nat → Int32} (h : lo f) {k : Nat} {t : Int} (ht : -105 ≤ t ∧ t < 2147483648) : lo (upd f k (iI t)) := by
  intro i
  by_cases hi : i = k
  · subst hi; rw [pk_us, iI_toInt (by omega)]; omega
  · rw [pk_un hi]; exact h i
theorem lo_updE {f f2 : Nat → Int32} {k : Nat} {t : Int} (e : upd f k (iI t) = f2) (h : lo f) (ht : -105 ≤ t ∧ t < 2147483648) : lo f2 := e ▸ lo_upd h ht
theorem lo_cpy {f f2 : Nat → Int32} {n : Nat} (h : lo f) (h1 : ∀ j, j < n → f2 j = f j) (h2 : ∀ j, n ≤ j → f2 j = 0) : lo f2 := by
  intro i
  by_cases hi : i < n
  · rw [h1 i hi]; exact h i
  · rw [h2 i (by omega)]; decide
theorem lo_at {f : Nat → Int32} (h : lo f) {i : Nat} {z : Int} (e : f i = iI z) (hz : -2147483648 ≤ z ∧ z < 2147483648) : -105 ≤ z := by
  have := h i
  rw [e, iI_toInt hz] at this
  exact this
theorem cpy_lt {f f2 : Nat → Int32} {n : Nat} (e : va_cpy f (fun _ => 0) 0 0 (n : Int).toNat = f2) : (∀ j, j < n → f2 j = f j) ∧ ∀ j, n ≤ j → f2 j = 0 := by
  subst e
  refine ⟨fun j hj => ?_, fun j hj => ?_⟩
  · rw [pk_cpy_in (by omega) (by omega)]
    congr 1; omega
  · rw [pk_cpy_out (by omega)]
theorem dX1_init_0 : decode cX1_init 0 = .ok (.aload_n 0, 1) := by decide +kernel
theorem dX1_init_1 : decode cX1_init 1 = .ok (.invokespecial 3, 3) := by decide +kernel
theorem dX1_init_4 : decode cX1_init 4 = .ok (.aload_n 0, 1) := by decide +kernel
theorem dX1_init_5 : decode cX1_init 5 = .ok (.bipush 64, 2) := by decide +kernel
theorem dX1_init_7 : decode cX1_init 7 = .ok (.newarray .int, 2) := by decide +kernel
theorem dX1_init_9 : decode cX1_init 9 = .ok (.putfield 9, 3) := by decide +kernel
theorem dX1_init_12 : decode cX1_init 12 = .ok (.aload_n 0, 1) := by decide +kernel
theorem dX1_init_13 : decode cX1_init 13 = .ok (.iconst 1, 1) := by decide +kernel
theorem dX1_init_14 : decode cX1_init 14 = .ok (.putfield 15, 3) := by decide +kernel
theorem dX1_init_17 : decode cX1_init 17 = .ok (.return_, 1) := by decide +kernel
abbrev po_c_X1_init (g : GG) (h0 : Nat) : Option Value → va_W → Prop := fun v8 w8 => ∃ h1 : Nat, v8 = none ∧ w8 = [(h0, ob 1 [.ref h1, .int (iI 1)]), (h1, aI g 64 (fun _ => 0))]
set_option maxHeartbeats 4000000 in
set_option maxRecDepth 100000 in
/-- a new code tree -/
theorem c_X1_init (l : Launch) (g : GG) (h0 : Nat) : Ct l g yX1_init (wM yX1_init cX1_init 1 none) (rmD 1 1 64) [.ref h0] [(h0, ob 1 [.null, .int (iI 0)])] (po_c_X1_init g h0) := by
  refine Ct_of (by decide +kernel) (Nat.le_of_ble_eq_true rfl) ?_
  intro p9 e9 s9 m9 ag9 bl9 mt9 c9 A9 fx hr hnm
  refine v_aload_n fx 0 dX1_init_0 rfl rfl ?_
  refine v_objInit fx (nl rfl) k192 k77 k78 dX1_init_1 (nl rfl) (nl rfl) rfl ?_
  refine v_aload_n fx 0 dX1_init_4 rfl rfl ?_
  refine v_bipush fx dX1_init_5 (by decide +kernel) rfl ?_
  refine v_newa fx 0 .int 64 (64, .inl (fun _ => 0)) 1 64 k98 dX1_init_7 rfl rfl rfl (by omega) rfl (fun cA => arr0_int cA _) (by decide) (nl rfl) (nl rfl) rfl rfl rfl (fun q_1 => ?_)
  refine v_is (wn := [(h0, ob 1 [.null, .int (iI 0)]), (q_1, aI g 64 (fun _ => 0))]) (cn := 1) (sn := 64) (sn2 := [.ref q_1, .ref h0]) rfl rfl rfl rfl ?_
  refine v_put fx 0 0 [(h0, ob 1 [.ref q_1, .int (iI 0)]), (q_1, aI g 64 (fun _ => 0))] inX1 tyX1_ok nmX1 k193 dX1_init_9 rfl rfl (by decide) rfl rfl rfl rfl (nl rfl) rfl rfl ?_
  refine v_aload_n fx 0 dX1_init_12 rfl rfl ?_
  refine v_iconst fx dX1_init_13 rfl ?_
  refine v_put fx 0 1 [(h0, ob 1 [.ref q_1, .int (iI 1)]), (q_1, aI g 64 (fun _ => 0))] inX1 tyX1_ok nmX1 k194 dX1_init_14 rfl rfl (by decide) rfl rfl rfl rfl (nl rfl) rfl rfl ?_
  exact v_vret fx [(h0, ob 1 [.ref q_1, .int (iI 1)]), (q_1, aI g 64 (fun _ => 0))] [0, 1] hr dX1_init_17 rfl rfl (nl rfl) (nl rfl) ⟨q_1, rfl, rfl⟩
theorem dX1_branch_0 : decode cX1_branch 0 = .ok (.iconst 2, 1) := by decide +kernel
theorem dX1_branch_1 : decode cX1_branch 1 = .ok (.iload_n 1, 1) := by decide +kernel
theorem dX1_branch_2 : decode cX1_branch 2 = .ok (.imul, 1) := by decide +kernel
theorem dX1_branch_3 : decode cX1_branch 3 = .ok (.iload_n 2, 1) := by decide +kernel
theorem dX1_branch_4 : decode cX1_branch 4 = .ok (.ifCond .eq 7, 3) := by decide +kernel
theorem dX1_branch_7 : decode cX1_branch 7 = .ok (.iconst 1, 1) := by decide +kernel
theorem dX1_branch_8 : decode cX1_branch 8 = .ok (.goto 4, 3) := by decide +kernel
theorem dX1_branch_11 : decode cX1_branch 11 = .ok (.iconst 0, 1) := by decide +kernel
theorem dX1_branch_12 : decode cX1_branch 12 = .ok (.iadd, 1) := by decide +kernel
theorem dX1_branch_13 : decode cX1_branch 13 = .ok (.istore_n 3, 1) := by decide +kernel
theorem dX1_branch_14 : decode cX1_branch 14 = .ok (.iload_n 3, 1) := by decide +kernel
theorem dX1_branch_15 : decode cX1_branch 15 = .ok (.ifCond .lt 21, 3) := by decide +kernel
theorem dX1_branch_18 : decode cX1_branch 18 = .ok (.iload_n 3, 1) := by decide +kernel
theorem dX1_branch_19 : decode cX1_branch 19 = .ok (.aload_n 0, 1) := by decide +kernel
theorem dX1_branch_20 : decode cX1_branch 20 = .ok (.getfield 9, 3) := by decide +kernel
theorem dX1_branch_23 : decode cX1_branch 23 = .ok (.arraylength, 1) := by decide +kernel
theorem dX1_branch_24 : decode cX1_branch 24 = .ok (.if_icmp .ge 12, 3) := by decide +kernel
theorem dX1_branch_27 : decode cX1_branch 27 = .ok (.aload_n 0, 1) := by decide +kernel
theorem dX1_branch_28 : decode cX1_branch 28 = .ok (.getfield 9, 3) := by decide +kernel
theorem dX1_branch_31 : decode cX1_branch 31 = .ok (.iload_n 3, 1) := by decide +kernel
theorem dX1_branch_32 : decode cX1_branch 32 = .ok (.iaload, 1) := by decide +kernel
theorem dX1_branch_33 : decode cX1_branch 33 = .ok (.goto 4, 3) := by decide +kernel
theorem dX1_branch_36 : decode cX1_branch 36 = .ok (.iconst 0, 1) := by decide +kernel
theorem dX1_branch_37 : decode cX1_branch 37 = .ok (.ireturn, 1) := by decide +kernel
abbrev po_c_X1_branch (g : GG) (h0 : Nat) (h1 : Nat) (n : Nat) (f : Nat → Int32) (nd : Int32) (a : Int) (b : Int) : Option Value → va_W → Prop := fun v8 w8 => ∃ r : Int, v8 = some (.int (iI r)) ∧ w8 = [(h0, ob 1 [.ref h1, .int nd]), (h1, aI g n f)] ∧ (-105 ≤ r ∧ r < 2147483648)
set_option maxHeartbeats 4000000 in
set_option maxRecDepth 100000 in
/-- what the branch holds -/
theorem c_X1_branch (l : Launch) (g : GG) (h0 : Nat) (h1 : Nat) (n : Nat) (f : Nat → Int32) (nd : Int32) (a : Int) (b : Int) (hp0 : -2147483648 ≤ a ∧ a < 2147483648) (hp1 : 0 ≤ b ∧ b ≤ 1) (hp2 : n < 1000000000) (hp3 : lo f) : Ct l g yX1_branch (wM yX1_branch cX1_branch 4 (some .int)) (rmD 0 0 0) [.ref h0, .int (iI a), .int (iI b)] [(h0, ob 1 [.ref h1, .int nd]), (h1, aI g n f)] (po_c_X1_branch g h0 h1 n f nd a b) := by
  refine Ct_of (by decide +kernel) (Nat.le_of_ble_eq_true rfl) ?_
  intro p9 e9 s9 m9 ag9 bl9 mt9 c9 A9 fx hr hnm
  refine v_iconst fx dX1_branch_0 rfl ?_
  refine v_iload_n fx 1 dX1_branch_1 rfl rfl ?_
  refine v_imul fx (2 * a) dX1_branch_2 (by rfl) rfl ?_
  refine v_iload_n fx 2 dX1_branch_3 rfl rfl ?_
  refine v_if_eq fx 11 dX1_branch_4 (by decide) rfl (by omega) (fun h_1 => ?_) (fun h_1 => ?_)
  ·
    refine v_iconst fx dX1_branch_11 rfl ?_
    refine v_iadd fx ((2 * a) + 0) dX1_branch_12 (by rfl) rfl ?_
    refine v_any (fun z_2 hz_2 ez_2 => ?_)
    refine v_istore_n fx [(3, .int (iI z_2)), (0, .ref h0), (1, .int (iI a)), (2, .int (iI b))] dX1_branch_13 (by decide) rfl rfl ?_
    refine v_iload_n fx 0 dX1_branch_14 rfl rfl ?_
    refine v_if_lt fx 36 dX1_branch_15 (by decide) rfl (by omega) (fun h_3 => ?_) (fun h_3 => ?_)
    ·
      refine v_iconst fx dX1_branch_36 rfl ?_
      exact v_iret fx [(h0, ob 1 [.ref h1, .int nd]), (h1, aI g n f)] [0, 1] hr dX1_branch_37 rfl rfl (nl rfl) (nl rfl) ⟨0, rfl, rfl, (by first | omega | rfl | assumption)⟩
    ·
      refine v_iload_n fx 0 dX1_branch_18 rfl rfl ?_
      refine v_aload_n fx 1 dX1_branch_19 rfl rfl ?_
      refine v_get fx 0 0 inX1 k193 dX1_branch_20 rfl rfl (by decide) rfl rfl rfl ?_
      refine v_alen fx 1 0 (n : Int) dX1_branch_23 rfl rfl rfl rfl ?_
      refine v_icmp_ge fx 36 dX1_branch_24 (by decide) rfl (by omega) (by omega) (fun h_4 => ?_) (fun h_4 => ?_)
      ·
        refine v_iconst fx dX1_branch_36 rfl ?_
        exact v_iret fx [(h0, ob 1 [.ref h1, .int nd]), (h1, aI g n f)] [0, 1] hr dX1_branch_37 rfl rfl (nl rfl) (nl rfl) ⟨0, rfl, rfl, (by first | omega | rfl | assumption)⟩
      ·
        refine v_aload_n fx 1 dX1_branch_27 rfl rfl ?_
        refine v_get fx 0 0 inX1 k193 dX1_branch_28 rfl rfl (by decide) rfl rfl rfl ?_
        refine v_iload_n fx 0 dX1_branch_31 rfl rfl ?_
        refine v_iald fx 1 dX1_branch_32 rfl (by omega) (by omega) rfl ?_
        refine v_any (fun z_5 hz_5 ez_5 => ?_)
        have hlo := lo_at hp3 (by assumption) (by assumption)
        refine v_goto fx 37 dX1_branch_33 (by decide) ?_
        exact v_iret fx [(h0, ob 1 [.ref h1, .int nd]), (h1, aI g n f)] [0, 1] hr dX1_branch_37 rfl rfl (nl rfl) (nl rfl) ⟨z_5, rfl, rfl, (by first | omega | rfl | assumption)⟩
  ·
    refine v_iconst fx dX1_branch_7 rfl ?_
    refine v_goto fx 12 dX1_branch_8 (by decide) ?_
    refine v_iadd fx ((2 * a) + 1) dX1_branch_12 (by rfl) rfl ?_
    refine v_any (fun z_6 hz_6 ez_6 => ?_)
    refine v_istore_n fx [(3, .int (iI z_6)), (0, .ref h0), (1, .int (iI a)), (2, .int (iI b))] dX1_branch_13 (by decide) rfl rfl ?_
    refine v_iload_n fx 0 dX1_branch_14 rfl rfl ?_
    refine v_if_lt fx 36 dX1_branch_15 (by decide) rfl (by omega) (fun h_7 => ?_) (fun h_7 => ?_)
    ·
      refine v_iconst fx dX1_branch_36 rfl ?_
      exact v_iret fx [(h0, ob 1 [.ref h1, .int nd]), (h1, aI g n f)] [0, 1] hr dX1_branch_37 rfl rfl (nl rfl) (nl rfl) ⟨0, rfl, rfl, (by first | omega | rfl | assumption)⟩
    ·
      refine v_iload_n fx 0 dX1_branch_18 rfl rfl ?_
      refine v_aload_n fx 1 dX1_branch_19 rfl rfl ?_
      refine v_get fx 0 0 inX1 k193 dX1_branch_20 rfl rfl (by decide) rfl rfl rfl ?_
      refine v_alen fx 1 0 (n : Int) dX1_branch_23 rfl rfl rfl rfl ?_
      refine v_icmp_ge fx 36 dX1_branch_24 (by decide) rfl (by omega) (by omega) (fun h_8 => ?_) (fun h_8 => ?_)
      ·
        refine v_iconst fx dX1_branch_36 rfl ?_
        exact v_iret fx [(h0, ob 1 [.ref h1, .int nd]), (h1, aI g n f)] [0, 1] hr dX1_branch_37 rfl rfl (nl rfl) (nl rfl) ⟨0, rfl, rfl, (by first | omega | rfl | assumption)⟩
      ·
        refine v_aload_n fx 1 dX1_branch_27 rfl rfl ?_
        refine v_get fx 0 0 inX1 k193 dX1_branch_28 rfl rfl (by decide) rfl rfl rfl ?_
        refine v_iload_n fx 0 dX1_branch_31 rfl rfl ?_
        refine v_iald fx 1 dX1_branch_32 rfl (by omega) (by omega) rfl ?_
        refine v_any (fun z_9 hz_9 ez_9 => ?_)
        have hlo := lo_at hp3 (by assumption) (by assumption)
        refine v_goto fx 37 dX1_branch_33 (by decide) ?_
        exact v_iret fx [(h0, ob 1 [.ref h1, .int nd]), (h1, aI g n f)] [0, 1] hr dX1_branch_37 rfl rfl (nl rfl) (nl rfl) ⟨z_9, rfl, rfl, (by first | omega | rfl | assumption)⟩
theorem dX1_setBranch_0 : decode cX1_setBranch 0 = .ok (.iconst 2, 1) := by decide +kernel
theorem dX1_setBranch_1 : decode cX1_setBranch 1 = .ok (.iload_n 1, 1) := by decide +kernel
theorem dX1_setBranch_2 : decode cX1_setBranch 2 = .ok (.imul, 1) := by decide +kernel
theorem dX1_setBranch_3 : decode cX1_setBranch 3 = .ok (.iload_n 2, 1) := by decide +kernel
theorem dX1_setBranch_4 : decode cX1_setBranch 4 = .ok (.ifCond .eq 7, 3) := by decide +kernel
theorem dX1_setBranch_7 : decode cX1_setBranch 7 = .ok (.iconst 1, 1) := by decide +kernel
theorem dX1_setBranch_8 : decode cX1_setBranch 8 = .ok (.goto 4, 3) := by decide +kernel
theorem dX1_setBranch_11 : decode cX1_setBranch 11 = .ok (.iconst 0, 1) := by decide +kernel
theorem dX1_setBranch_12 : decode cX1_setBranch 12 = .ok (.iadd, 1) := by decide +kernel
theorem dX1_setBranch_13 : decode cX1_setBranch 13 = .ok (.istore 4, 2) := by decide +kernel
theorem dX1_setBranch_15 : decode cX1_setBranch 15 = .ok (.iload 4, 2) := by decide +kernel
theorem dX1_setBranch_17 : decode cX1_setBranch 17 = .ok (.ifCond .lt 21, 3) := by decide +kernel
theorem dX1_setBranch_20 : decode cX1_setBranch 20 = .ok (.iload 4, 2) := by decide +kernel
theorem dX1_setBranch_22 : decode cX1_setBranch 22 = .ok (.aload_n 0, 1) := by decide +kernel
theorem dX1_setBranch_23 : decode cX1_setBranch 23 = .ok (.getfield 9, 3) := by decide +kernel
theorem dX1_setBranch_26 : decode cX1_setBranch 26 = .ok (.arraylength, 1) := by decide +kernel
theorem dX1_setBranch_27 : decode cX1_setBranch 27 = .ok (.if_icmp .ge 11, 3) := by decide +kernel
theorem dX1_setBranch_30 : decode cX1_setBranch 30 = .ok (.aload_n 0, 1) := by decide +kernel
theorem dX1_setBranch_31 : decode cX1_setBranch 31 = .ok (.getfield 9, 3) := by decide +kernel
theorem dX1_setBranch_34 : decode cX1_setBranch 34 = .ok (.iload 4, 2) := by decide +kernel
theorem dX1_setBranch_36 : decode cX1_setBranch 36 = .ok (.iload_n 3, 1) := by decide +kernel
theorem dX1_setBranch_37 : decode cX1_setBranch 37 = .ok (.iastore, 1) := by decide +kernel
theorem dX1_setBranch_38 : decode cX1_setBranch 38 = .ok (.return_, 1) := by decide +kernel
abbrev po_c_X1_setBranch (g : GG) (h0 : Nat) (h1 : Nat) (n : Nat) (f : Nat → Int32) (nd : Int32) (a : Int) (b : Int) (t : Int) : Option Value → va_W → Prop := fun v8 w8 => ∃ f2 : Nat → Int32, v8 = none ∧ w8 = [(h0, ob 1 [.ref h1, .int nd]), (h1, aI g n f2)] ∧ (lo f2)
set_option maxHeartbeats 4000000 in
set_option maxRecDepth 100000 in
/-- a branch is set, where there is such a place -/
theorem c_X1_setBranch (l : Launch) (g : GG) (h0 : Nat) (h1 : Nat) (n : Nat) (f : Nat → Int32) (nd : Int32) (a : Int) (b : Int) (t : Int) (hp0 : -2147483648 ≤ a ∧ a < 2147483648) (hp1 : 0 ≤ b ∧ b ≤ 1) (hp2 : n < 1000000000) (hp3 : lo f) (hp4 : -105 ≤ t ∧ t < 2147483648) : Ct l g yX1_setBranch (wM yX1_setBranch cX1_setBranch 5 none) (rmD 0 0 0) [.ref h0, .int (iI a), .int (iI b), .int (iI t)] [(h0, ob 1 [.ref h1, .int nd]), (h1, aI g n f)] (po_c_X1_setBranch g h0 h1 n f nd a b t) := by
  refine Ct_of (by decide +kernel) (Nat.le_of_ble_eq_true rfl) ?_
  intro p9 e9 s9 m9 ag9 bl9 mt9 c9 A9 fx hr hnm
  refine v_iconst fx dX1_setBranch_0 rfl ?_
  refine v_iload_n fx 1 dX1_setBranch_1 rfl rfl ?_
  refine v_imul fx (2 * a) dX1_setBranch_2 (by rfl) rfl ?_
  refine v_iload_n fx 2 dX1_setBranch_3 rfl rfl ?_
  refine v_if_eq fx 11 dX1_setBranch_4 (by decide) rfl (by omega) (fun h_1 => ?_) (fun h_1 => ?_)
  ·
    refine v_iconst fx dX1_setBranch_11 rfl ?_
    refine v_iadd fx ((2 * a) + 0) dX1_setBranch_12 (by rfl) rfl ?_
    refine v_any (fun z_2 hz_2 ez_2 => ?_)
    refine v_istore fx [(4, .int (iI z_2)), (0, .ref h0), (1, .int (iI a)), (2, .int (iI b)), (3, .int (iI t))] dX1_setBranch_13 (by decide) rfl rfl ?_
    refine v_iload fx 0 dX1_setBranch_15 rfl rfl ?_
    refine v_if_lt fx 38 dX1_setBranch_17 (by decide) rfl (by omega) (fun h_3 => ?_) (fun h_3 => ?_)
    ·
      exact v_vret fx [(h0, ob 1 [.ref h1, .int nd]), (h1, aI g n f)] [0, 1] hr dX1_setBranch_38 rfl rfl (nl rfl) (nl rfl) ⟨f, rfl, rfl, (by first | exact hp3 | exact lo_updE (by assumption) hp3 hp4)⟩
    ·
      refine v_iload fx 0 dX1_setBranch_20 rfl rfl ?_
      refine v_aload_n fx 1 dX1_setBranch_22 rfl rfl ?_
      refine v_get fx 0 0 inX1 k193 dX1_setBranch_23 rfl rfl (by decide) rfl rfl rfl ?_
      refine v_alen fx 1 0 (n : Int) dX1_setBranch_26 rfl rfl rfl rfl ?_
      refine v_icmp_ge fx 38 dX1_setBranch_27 (by decide) rfl (by omega) (by omega) (fun h_4 => ?_) (fun h_4 => ?_)
      ·
        exact v_vret fx [(h0, ob 1 [.ref h1, .int nd]), (h1, aI g n f)] [0, 1] hr dX1_setBranch_38 rfl rfl (nl rfl) (nl rfl) ⟨f, rfl, rfl, (by first | exact hp3 | exact lo_updE (by assumption) hp3 hp4)⟩
      ·
        refine v_aload_n fx 1 dX1_setBranch_30 rfl rfl ?_
        refine v_get fx 0 0 inX1 k193 dX1_setBranch_31 rfl rfl (by decide) rfl rfl rfl ?_
        refine v_iload fx 0 dX1_setBranch_34 rfl rfl ?_
        refine v_iload_n fx 4 dX1_setBranch_36 rfl rfl ?_
        obtain ⟨f_5, ef_5⟩ : ∃ f9 : Nat → Int32, upd f (z_2).toNat (iI t) = f9 := ⟨_, rfl⟩
        refine v_iast fx 1 f_5 [(h0, ob 1 [.ref h1, .int nd]), (h1, aI g n f_5)] dX1_setBranch_37 rfl (by omega) (by omega) ef_5 rfl rfl ?_
        exact v_vret fx [(h0, ob 1 [.ref h1, .int nd]), (h1, aI g n f_5)] [0, 1] hr dX1_setBranch_38 rfl rfl (nl rfl) (nl rfl) ⟨f_5, rfl, rfl, (by first | exact hp3 | exact lo_updE (by assumption) hp3 hp4)⟩
  ·
    refine v_iconst fx dX1_setBranch_7 rfl ?_
    refine v_goto fx 12 dX1_setBranch_8 (by decide) ?_
    refine v_iadd fx ((2 * a) + 1) dX1_setBranch_12 (by rfl) rfl ?_
    refine v_any (fun z_6 hz_6 ez_6 => ?_)
    refine v_istore fx [(4, .int (iI z_6)), (0, .ref h0), (1, .int (iI a)), (2, .int (iI b)), (3, .int (iI t))] dX1_setBranch_13 (by decide) rfl rfl ?_
    refine v_iload fx 0 dX1_setBranch_15 rfl rfl ?_
    refine v_if_lt fx 38 dX1_setBranch_17 (by decide) rfl (by omega) (fun h_7 => ?_) (fun h_7 => ?_)
    ·
      exact v_vret fx [(h0, ob 1 [.ref h1, .int nd]), (h1, aI g n f)] [0, 1] hr dX1_setBranch_38 rfl rfl (nl rfl) (nl rfl) ⟨f, rfl, rfl, (by first | exact hp3 | exact lo_updE (by assumption) hp3 hp4)⟩
    ·
      refine v_iload fx 0 dX1_setBranch_20 rfl rfl ?_
      refine v_aload_n fx 1 dX1_setBranch_22 rfl rfl ?_
      refine v_get fx 0 0 inX1 k193 dX1_setBranch_23 rfl rfl (by decide) rfl rfl rfl ?_
      refine v_alen fx 1 0 (n : Int) dX1_setBranch_26 rfl rfl rfl rfl ?_
      refine v_icmp_ge fx 38 dX1_setBranch_27 (by decide) rfl (by omega) (by omega) (fun h_8 => ?_) (fun h_8 => ?_)
      ·
        exact v_vret fx [(h0, ob 1 [.ref h1, .int nd]), (h1, aI g n f)] [0, 1] hr dX1_setBranch_38 rfl rfl (nl rfl) (nl rfl) ⟨f, rfl, rfl, (by first | exact hp3 | exact lo_updE (by assumption) hp3 hp4)⟩
      ·
        refine v_aload_n fx 1 dX1_setBranch_30 rfl rfl ?_
        refine v_get fx 0 0 inX1 k193 dX1_setBranch_31 rfl rfl (by decide) rfl rfl rfl ?_
        refine v_iload fx 0 dX1_setBranch_34 rfl rfl ?_
        refine v_iload_n fx 4 dX1_setBranch_36 rfl rfl ?_
        obtain ⟨f_9, ef_9⟩ : ∃ f9 : Nat → Int32, upd f (z_6).toNat (iI t) = f9 := ⟨_, rfl⟩
        refine v_iast fx 1 f_9 [(h0, ob 1 [.ref h1, .int nd]), (h1, aI g n f_9)] dX1_setBranch_37 rfl (by omega) (by omega) ef_9 rfl rfl ?_
        exact v_vret fx [(h0, ob 1 [.ref h1, .int nd]), (h1, aI g n f_9)] [0, 1] hr dX1_setBranch_38 rfl rfl (nl rfl) (nl rfl) ⟨f_9, rfl, rfl, (by first | exact hp3 | exact lo_updE (by assumption) hp3 hp4)⟩
theorem dJ7_copyOf_59c91_0 : decode cJ7_copyOf_59c91 0 = .ok (.iload_n 1, 1) := by decide +kernel
theorem dJ7_copyOf_59c91_1 : decode cJ7_copyOf_59c91 1 = .ok (.aload_n 0, 1) := by decide +kernel
theorem dJ7_copyOf_59c91_2 : decode cJ7_copyOf_59c91 2 = .ok (.arraylength, 1) := by decide +kernel
theorem dJ7_copyOf_59c91_3 : decode cJ7_copyOf_59c91 3 = .ok (.if_icmp .ne 11, 3) := by decide +kernel
theorem dJ7_copyOf_59c91_14 : decode cJ7_copyOf_59c91 14 = .ok (.iload_n 1, 1) := by decide +kernel
theorem dJ7_copyOf_59c91_15 : decode cJ7_copyOf_59c91 15 = .ok (.newarray .int, 2) := by decide +kernel
theorem dJ7_copyOf_59c91_17 : decode cJ7_copyOf_59c91 17 = .ok (.astore_n 2, 1) := by decide +kernel
theorem dJ7_copyOf_59c91_18 : decode cJ7_copyOf_59c91 18 = .ok (.aload_n 0, 1) := by decide +kernel
theorem dJ7_copyOf_59c91_19 : decode cJ7_copyOf_59c91 19 = .ok (.iconst 0, 1) := by decide +kernel
theorem dJ7_copyOf_59c91_20 : decode cJ7_copyOf_59c91 20 = .ok (.aload_n 2, 1) := by decide +kernel
theorem dJ7_copyOf_59c91_21 : decode cJ7_copyOf_59c91 21 = .ok (.iconst 0, 1) := by decide +kernel
theorem dJ7_copyOf_59c91_22 : decode cJ7_copyOf_59c91 22 = .ok (.aload_n 0, 1) := by decide +kernel
theorem dJ7_copyOf_59c91_23 : decode cJ7_copyOf_59c91 23 = .ok (.arraylength, 1) := by decide +kernel
theorem dJ7_copyOf_59c91_24 : decode cJ7_copyOf_59c91 24 = .ok (.iload_n 1, 1) := by decide +kernel
theorem dJ7_copyOf_59c91_25 : decode cJ7_copyOf_59c91 25 = .ok (.invokestatic 304, 3) := by decide +kernel
theorem dJ7_copyOf_59c91_28 : decode cJ7_copyOf_59c91 28 = .ok (.invokestatic 150, 3) := by decide +kernel
theorem dJ7_copyOf_59c91_31 : decode cJ7_copyOf_59c91 31 = .ok (.aload_n 2, 1) := by decide +kernel
theorem dJ7_copyOf_59c91_32 : decode cJ7_copyOf_59c91 32 = .ok (.areturn, 1) := by decide +kernel
abbrev po_c_J7_copyOf_59c91 (g : GG) (h1 : Nat) (n : Nat) (f : Nat → Int32) (k : Int) : Option Value → va_W → Prop := fun v8 w8 => ∃ h2 : Nat, ∃ f2 : Nat → Int32, v8 = some (.ref h2) ∧ w8 = [(h1, aI g n f), (h2, aI g k.toNat f2)] ∧ (∀ j, j < n → f2 j = f j) ∧ (∀ j, n ≤ j → f2 j = 0)
set_option maxHeartbeats 4000000 in
set_option maxRecDepth 100000 in
/-- Arrays.copyOf to a longer one -/
theorem c_J7_copyOf_59c91 (l : Launch) (g : GG) (h1 : Nat) (n : Nat) (f : Nat → Int32) (k : Int) (hp0 : (n : Int) < k ∧ k < 50000000) : Ct l g yJ7_copyOf_59c91 (wM yJ7_copyOf_59c91 cJ7_copyOf_59c91 3 (some (.array .int))) (rmD 1 1 k.toNat) [.ref h1, .int (iI k)] [(h1, aI g n f)] (po_c_J7_copyOf_59c91 g h1 n f k) := by
  refine Ct_of (by decide +kernel) (Nat.le_of_ble_eq_true rfl) ?_
  intro p9 e9 s9 m9 ag9 bl9 mt9 c9 A9 fx hr hnm
  refine v_iload_n fx 1 dJ7_copyOf_59c91_0 rfl rfl ?_
  refine v_aload_n fx 0 dJ7_copyOf_59c91_1 rfl rfl ?_
  refine v_alen fx 0 0 (n : Int) dJ7_copyOf_59c91_2 rfl rfl rfl rfl ?_
  refine v_icmp_ne fx 14 dJ7_copyOf_59c91_3 (by decide) rfl (by omega) (by omega) (fun h_1 => ?_) (fun h0 => absurd h0 (by omega))
  refine v_iload_n fx 1 dJ7_copyOf_59c91_14 rfl rfl ?_
  refine v_newa fx 0 .int k.toNat (k.toNat, .inl (fun _ => 0)) 1 k.toNat k98 dJ7_copyOf_59c91_15 rfl rfl rfl (by omega) rfl (fun cA => arr0_int cA _) (by decide) (nl rfl) (by show k.toNat ≤ k.toNat; omega) rfl (Nat.zero_add _) rfl (fun q_2 => ?_)
  refine v_is (wn := [(h1, aI g n f), (q_2, aI g k.toNat (fun _ => 0))]) (cn := 1) (sn := k.toNat) (sn2 := [.ref q_2]) rfl rfl rfl rfl ?_
  refine v_astore_n fx [(2, .ref q_2), (0, .ref h1), (1, .int (iI k))] dJ7_copyOf_59c91_17 (by decide) rfl rfl ?_
  refine v_aload_n fx 1 dJ7_copyOf_59c91_18 rfl rfl ?_
  refine v_iconst fx dJ7_copyOf_59c91_19 rfl ?_
  refine v_aload_n fx 0 dJ7_copyOf_59c91_20 rfl rfl ?_
  refine v_iconst fx dJ7_copyOf_59c91_21 rfl ?_
  refine v_aload_n fx 1 dJ7_copyOf_59c91_22 rfl rfl ?_
  refine v_alen fx 0 0 (n : Int) dJ7_copyOf_59c91_23 rfl rfl rfl rfl ?_
  refine v_iload_n fx 2 dJ7_copyOf_59c91_24 rfl rfl ?_
  refine v_mmin fx ((n : Int)) (by omega) (by omega) (if_neg (by omega)) k232 k80 k47 k81 dJ7_copyOf_59c91_25 (nl rfl) (nl rfl) (nl rfl) (nl rfl) (by show k.toNat ≤ k.toNat; omega) rfl ?_
  obtain ⟨f_3, ef_3⟩ : ∃ f9 : Nat → Int32, va_cpy f (fun _ => 0) 0 0 ((n : Int)).toNat = f9 := ⟨_, rfl⟩
  refine v_copy fx 0 1 0 [(h1, aI g n f), (q_2, aI g k.toNat f_3)] k233 k235 k234 k56 rfl rfl rfl rfl (by omega) (fun _ _ => rfl) dJ7_copyOf_59c91_28 (nl rfl) (nl rfl) (nl rfl) (by rw [ef_3]; rfl) rfl ?_
  refine v_aload_n fx 0 dJ7_copyOf_59c91_31 rfl rfl ?_
  exact v_aret fx [(h1, aI g n f), (q_2, aI g k.toNat f_3)] [0, 1] hr (Or.inr ⟨_, rfl⟩) dJ7_copyOf_59c91_32 rfl rfl (nl rfl) (by show k.toNat ≤ k.toNat; omega) ⟨q_2, f_3, rfl, rfl, (by exact (cpy_lt (by assumption)).1), (by exact (cpy_lt (by assumption)).2)⟩
theorem dX1_nodeBelow_0 : decode cX1_nodeBelow 0 = .ok (.aload_n 0, 1) := by decide +kernel
theorem dX1_nodeBelow_1 : decode cX1_nodeBelow 1 = .ok (.iload_n 1, 1) := by decide +kernel
theorem dX1_nodeBelow_2 : decode cX1_nodeBelow 2 = .ok (.iload_n 2, 1) := by decide +kernel
theorem dX1_nodeBelow_3 : decode cX1_nodeBelow 3 = .ok (.invokevirtual 35, 3) := by decide +kernel
theorem dX1_nodeBelow_6 : decode cX1_nodeBelow 6 = .ok (.istore_n 3, 1) := by decide +kernel
theorem dX1_nodeBelow_7 : decode cX1_nodeBelow 7 = .ok (.iload_n 3, 1) := by decide +kernel
theorem dX1_nodeBelow_8 : decode cX1_nodeBelow 8 = .ok (.ifCond .eq 5, 3) := by decide +kernel
theorem dX1_nodeBelow_11 : decode cX1_nodeBelow 11 = .ok (.iload_n 3, 1) := by decide +kernel
theorem dX1_nodeBelow_12 : decode cX1_nodeBelow 12 = .ok (.ireturn, 1) := by decide +kernel
theorem dX1_nodeBelow_13 : decode cX1_nodeBelow 13 = .ok (.iconst 2, 1) := by decide +kernel
theorem dX1_nodeBelow_14 : decode cX1_nodeBelow 14 = .ok (.aload_n 0, 1) := by decide +kernel
theorem dX1_nodeBelow_15 : decode cX1_nodeBelow 15 = .ok (.getfield 15, 3) := by decide +kernel
theorem dX1_nodeBelow_18 : decode cX1_nodeBelow 18 = .ok (.imul, 1) := by decide +kernel
theorem dX1_nodeBelow_19 : decode cX1_nodeBelow 19 = .ok (.iconst 1, 1) := by decide +kernel
theorem dX1_nodeBelow_20 : decode cX1_nodeBelow 20 = .ok (.iadd, 1) := by decide +kernel
theorem dX1_nodeBelow_21 : decode cX1_nodeBelow 21 = .ok (.aload_n 0, 1) := by decide +kernel
theorem dX1_nodeBelow_22 : decode cX1_nodeBelow 22 = .ok (.getfield 9, 3) := by decide +kernel
theorem dX1_nodeBelow_25 : decode cX1_nodeBelow 25 = .ok (.arraylength, 1) := by decide +kernel
theorem dX1_nodeBelow_26 : decode cX1_nodeBelow 26 = .ok (.if_icmp .lt 21, 3) := by decide +kernel
theorem dX1_nodeBelow_29 : decode cX1_nodeBelow 29 = .ok (.aload_n 0, 1) := by decide +kernel
theorem dX1_nodeBelow_30 : decode cX1_nodeBelow 30 = .ok (.aload_n 0, 1) := by decide +kernel
theorem dX1_nodeBelow_31 : decode cX1_nodeBelow 31 = .ok (.getfield 9, 3) := by decide +kernel
theorem dX1_nodeBelow_34 : decode cX1_nodeBelow 34 = .ok (.iconst 2, 1) := by decide +kernel
theorem dX1_nodeBelow_35 : decode cX1_nodeBelow 35 = .ok (.aload_n 0, 1) := by decide +kernel
theorem dX1_nodeBelow_36 : decode cX1_nodeBelow 36 = .ok (.getfield 9, 3) := by decide +kernel
theorem dX1_nodeBelow_39 : decode cX1_nodeBelow 39 = .ok (.arraylength, 1) := by decide +kernel
theorem dX1_nodeBelow_40 : decode cX1_nodeBelow 40 = .ok (.imul, 1) := by decide +kernel
theorem dX1_nodeBelow_41 : decode cX1_nodeBelow 41 = .ok (.invokestatic 38, 3) := by decide +kernel
theorem dX1_nodeBelow_44 : decode cX1_nodeBelow 44 = .ok (.putfield 9, 3) := by decide +kernel
theorem dX1_nodeBelow_47 : decode cX1_nodeBelow 47 = .ok (.aload_n 0, 1) := by decide +kernel
theorem dX1_nodeBelow_48 : decode cX1_nodeBelow 48 = .ok (.iload_n 1, 1) := by decide +kernel
theorem dX1_nodeBelow_49 : decode cX1_nodeBelow 49 = .ok (.iload_n 2, 1) := by decide +kernel
theorem dX1_nodeBelow_50 : decode cX1_nodeBelow 50 = .ok (.aload_n 0, 1) := by decide +kernel
theorem dX1_nodeBelow_51 : decode cX1_nodeBelow 51 = .ok (.getfield 15, 3) := by decide +kernel
theorem dX1_nodeBelow_54 : decode cX1_nodeBelow 54 = .ok (.invokevirtual 31, 3) := by decide +kernel
theorem dX1_nodeBelow_57 : decode cX1_nodeBelow 57 = .ok (.aload_n 0, 1) := by decide +kernel
theorem dX1_nodeBelow_58 : decode cX1_nodeBelow 58 = .ok (.dup, 1) := by decide +kernel
theorem dX1_nodeBelow_59 : decode cX1_nodeBelow 59 = .ok (.getfield 15, 3) := by decide +kernel
theorem dX1_nodeBelow_62 : decode cX1_nodeBelow 62 = .ok (.iconst 1, 1) := by decide +kernel
theorem dX1_nodeBelow_63 : decode cX1_nodeBelow 63 = .ok (.iadd, 1) := by decide +kernel
theorem dX1_nodeBelow_64 : decode cX1_nodeBelow 64 = .ok (.putfield 15, 3) := by decide +kernel
theorem dX1_nodeBelow_67 : decode cX1_nodeBelow 67 = .ok (.aload_n 0, 1) := by decide +kernel
theorem dX1_nodeBelow_68 : decode cX1_nodeBelow 68 = .ok (.getfield 15, 3) := by decide +kernel
theorem dX1_nodeBelow_71 : decode cX1_nodeBelow 71 = .ok (.iconst 1, 1) := by decide +kernel
theorem dX1_nodeBelow_72 : decode cX1_nodeBelow 72 = .ok (.isub, 1) := by decide +kernel
theorem dX1_nodeBelow_73 : decode cX1_nodeBelow 73 = .ok (.ireturn, 1) := by decide +kernel
abbrev po_c_X1_nodeBelow (g : GG) (h0 : Nat) (h1 : Nat) (n : Nat) (f : Nat → Int32) (nd : Int) (a : Int) (b : Int) : Option Value → va_W → Nat → Nat → Prop := fun v8 w8 kc8 ks8 => ∃ r : Int, ∃ nd2 : Int, ∃ n2 : Nat, ∃ f2 : Nat → Int32, ∃ h2 : Nat, v8 = some (.int (iI r)) ∧ w8 = [(h0, ob 1 [.ref h2, .int (iI nd2)]), (h2, aI g n2 f2)] ∧ (-2147483648 ≤ r ∧ r < 2147483648) ∧ (nd ≤ nd2 ∧ nd2 ≤ nd + 1) ∧ ((n2 = n ∧ ks8 = 0 ∧ kc8 = 0) ∨ (n2 = 2 * n ∧ ks8 = 2 * n ∧ kc8 = 1 ∧ (n : Int) ≤ 2 * nd + 1)) ∧ (lo f2)
set_option maxHeartbeats 4000000 in
set_option maxRecDepth 100000 in
/-- the node below, made if there is none -/
theorem c_X1_nodeBelow (l : Launch) (g : GG) (h0 : Nat) (h1 : Nat) (n : Nat) (f : Nat → Int32) (nd : Int) (a : Int) (b : Int) (hp0 : -2147483648 ≤ a ∧ a < 2147483648) (hp1 : 0 ≤ b ∧ b ≤ 1) (hp2 : 1 ≤ n ∧ n < 10000000) (hp3 : 1 ≤ nd ∧ nd < 1000000) (hp4 : lo f) : CtE l g yX1_nodeBelow (wM yX1_nodeBelow cX1_nodeBelow 4 (some .int)) (rmD 2 1 (2 * n)) [.ref h0, .int (iI a), .int (iI b)] [(h0, ob 1 [.ref h1, .int (iI nd)]), (h1, aI g n f)] (po_c_X1_nodeBelow g h0 h1 n f nd a b) := by
  refine CtE_of (by decide +kernel) (Nat.le_of_ble_eq_true rfl) ?_
  intro p9 e9 s9 m9 ag9 bl9 mt9 c9 A9 fx hr hnm
  refine v_aload_n fx 0 dX1_nodeBelow_0 rfl rfl ?_
  refine v_iload_n fx 1 dX1_nodeBelow_1 rfl rfl ?_
  refine v_iload_n fx 2 dX1_nodeBelow_2 rfl rfl ?_
  refine v_callV (As := [.int (iI a), .int (iI b)]) (rest := []) fx [0, 1] [] [(h0, ob 1 [.ref h1, .int (iI nd)]), (h1, aI g n f)] [] 2 0 (c_X1_branch l g h0 h1 n f (iI nd) a b (by first | omega | decide | assumption) (by first | omega | decide | assumption) (by first | omega | decide | assumption) (by first | omega | decide | assumption)) dX1_nodeBelow_3 k218 k220 k2 k54 k221 ykX1_branch rfl rfl rfl rfl rfl rfl rfl rfl (nl rfl) ⟨nl rfl, nl rfl⟩ ⟨(nl rfl), (by show 0 + 0 ≤ (2 * n); omega)⟩ rfl (fun v9 w9 hu => ?_)
  obtain ⟨r_1, rfl, rfl, u_2⟩ := hu
  refine v_is (wn := [(h0, ob 1 [.ref h1, .int (iI nd)]), (h1, aI g n f)]) (cn := 0) (sn := 0) (sn2 := [.int (iI r_1)]) rfl rfl rfl rfl ?_
  refine v_istore_n fx [(3, .int (iI r_1)), (0, .ref h0), (1, .int (iI a)), (2, .int (iI b))] dX1_nodeBelow_6 (by decide) rfl rfl ?_
  refine v_iload_n fx 0 dX1_nodeBelow_7 rfl rfl ?_
  refine v_if_eq fx 13 dX1_nodeBelow_8 (by decide) rfl (by omega) (fun h_3 => ?_) (fun h_3 => ?_)
  ·
    refine v_iconst fx dX1_nodeBelow_13 rfl ?_
    refine v_aload_n fx 1 dX1_nodeBelow_14 rfl rfl ?_
    refine v_get fx 0 1 inX1 k194 dX1_nodeBelow_15 rfl rfl (by decide) rfl rfl rfl ?_
    refine v_imul fx (2 * nd) dX1_nodeBelow_18 (by rfl) rfl ?_
    refine v_iconst fx dX1_nodeBelow_19 rfl ?_
    refine v_iadd fx ((2 * nd) + 1) dX1_nodeBelow_20 (by rfl) rfl ?_
    refine v_aload_n fx 1 dX1_nodeBelow_21 rfl rfl ?_
    refine v_get fx 0 0 inX1 k193 dX1_nodeBelow_22 rfl rfl (by decide) rfl rfl rfl ?_
    refine v_alen fx 1 0 (n : Int) dX1_nodeBelow_25 rfl rfl rfl rfl ?_
    refine v_icmp_lt fx 47 dX1_nodeBelow_26 (by decide) rfl (by omega) (by omega) (fun h_4 => ?_) (fun h_4 => ?_)
    ·
      refine v_aload_n fx 1 dX1_nodeBelow_47 rfl rfl ?_
      refine v_iload_n fx 2 dX1_nodeBelow_48 rfl rfl ?_
      refine v_iload_n fx 3 dX1_nodeBelow_49 rfl rfl ?_
      refine v_aload_n fx 1 dX1_nodeBelow_50 rfl rfl ?_
      refine v_get fx 0 1 inX1 k194 dX1_nodeBelow_51 rfl rfl (by decide) rfl rfl rfl ?_
      refine v_callV (As := [.int (iI a), .int (iI b), .int (iI nd)]) (rest := []) fx [0, 1] [] [(h0, ob 1 [.ref h1, .int (iI nd)]), (h1, aI g n f)] [] 3 0 (c_X1_setBranch l g h0 h1 n f (iI nd) a b nd (by first | omega | decide | assumption) (by first | omega | decide | assumption) (by first | omega | decide | assumption) (by first | exact hlo2 | exact hp4) (by first | omega | decide | assumption)) dX1_nodeBelow_54 k236 k238 k3 k54 k239 ykX1_setBranch rfl rfl rfl rfl rfl rfl rfl rfl (nl rfl) ⟨nl rfl, nl rfl⟩ ⟨(nl rfl), (by show 0 + 0 ≤ (2 * n); omega)⟩ rfl (fun v9 w9 hu => ?_)
      obtain ⟨f2_5, rfl, rfl, u_6⟩ := hu
      refine v_is (wn := [(h0, ob 1 [.ref h1, .int (iI nd)]), (h1, aI g n f2_5)]) (cn := 0) (sn := 0) (sn2 := []) rfl rfl rfl rfl ?_
      refine v_aload_n fx 1 dX1_nodeBelow_57 rfl rfl ?_
      refine v_dup fx dX1_nodeBelow_58 rfl rfl ?_
      refine v_get fx 0 1 inX1 k194 dX1_nodeBelow_59 rfl rfl (by decide) rfl rfl rfl ?_
      refine v_iconst fx dX1_nodeBelow_62 rfl ?_
      refine v_iadd fx (nd + 1) dX1_nodeBelow_63 (by rfl) rfl ?_
      refine v_put fx 0 1 [(h0, ob 1 [.ref h1, .int (iI (nd + 1))]), (h1, aI g n f2_5)] inX1 tyX1_ok nmX1 k194 dX1_nodeBelow_64 rfl rfl (by decide) rfl rfl rfl rfl (nl rfl) rfl rfl ?_
      refine v_aload_n fx 1 dX1_nodeBelow_67 rfl rfl ?_
      refine v_get fx 0 1 inX1 k194 dX1_nodeBelow_68 rfl rfl (by decide) rfl rfl rfl ?_
      refine v_iconst fx dX1_nodeBelow_71 rfl ?_
      refine v_isub fx ((nd + 1) - 1) dX1_nodeBelow_72 (by rfl) rfl ?_
      exact v_iretE fx [(h0, ob 1 [.ref h1, .int (iI (nd + 1))]), (h1, aI g n f2_5)] [0, 1] hr dX1_nodeBelow_73 rfl rfl ⟨((nd + 1) - 1), (nd + 1), n, f2_5, h1, rfl, rfl, (by first | omega | rfl | assumption), (by first | omega | rfl | assumption), (by first | omega | rfl | assumption), (by assumption)⟩
    ·
      refine v_aload_n fx 1 dX1_nodeBelow_29 rfl rfl ?_
      refine v_aload_n fx 1 dX1_nodeBelow_30 rfl rfl ?_
      refine v_get fx 0 0 inX1 k193 dX1_nodeBelow_31 rfl rfl (by decide) rfl rfl rfl ?_
      refine v_iconst fx dX1_nodeBelow_34 rfl ?_
      refine v_aload_n fx 1 dX1_nodeBelow_35 rfl rfl ?_
      refine v_get fx 0 0 inX1 k193 dX1_nodeBelow_36 rfl rfl (by decide) rfl rfl rfl ?_
      refine v_alen fx 1 0 (n : Int) dX1_nodeBelow_39 rfl rfl rfl rfl ?_
      refine v_imul fx (2 * (n : Int)) dX1_nodeBelow_40 (by rfl) rfl ?_
      refine v_callS (As := [.ref h1, .int (iI (2 * (n : Int)))]) (rest := [.ref h0]) fx [1] [0] [(h1, aI g n f)] [(h0, ob 1 [.ref h1, .int (iI nd)])] 2 (c_J7_copyOf_59c91 l g h1 n f (2 * (n : Int)) (by first | omega | decide | assumption)) dX1_nodeBelow_41 k222 k223 k55 k224 ykJ7_copyOf_59c91 rfl rfl rfl rfl rfl (nl rfl) ⟨nl rfl, nl rfl⟩ ⟨(nl rfl), (by show 0 + ((2 * (n : Int)).toNat) ≤ (2 * n); omega)⟩ rfl (fun v9 w9 hu => ?_)
      obtain ⟨h2_7, fc, rfl, rfl, u_8, u_9⟩ := hu
      refine v_is (wn := [(h0, ob 1 [.ref h1, .int (iI nd)]), (h1, aI g n f), (h2_7, aI g ((2 * (n : Int)).toNat) fc)]) (cn := 1) (sn := (2 * (n : Int)).toNat) (sn2 := [.ref h2_7, .ref h0]) rfl rfl (Nat.zero_add _) rfl ?_
      have hlo2 := lo_cpy hp4 (by assumption) (by assumption)
      refine v_put fx 0 0 [(h0, ob 1 [.ref h2_7, .int (iI nd)]), (h1, aI g n f), (h2_7, aI g ((2 * (n : Int)).toNat) fc)] inX1 tyX1_ok nmX1 k193 dX1_nodeBelow_44 rfl rfl (by decide) rfl rfl rfl rfl (nl rfl) rfl rfl ?_
      refine v_aload_n fx 1 dX1_nodeBelow_47 rfl rfl ?_
      refine v_iload_n fx 2 dX1_nodeBelow_48 rfl rfl ?_
      refine v_iload_n fx 3 dX1_nodeBelow_49 rfl rfl ?_
      refine v_aload_n fx 1 dX1_nodeBelow_50 rfl rfl ?_
      refine v_get fx 0 1 inX1 k194 dX1_nodeBelow_51 rfl rfl (by decide) rfl rfl rfl ?_
      refine v_callV (As := [.int (iI a), .int (iI b), .int (iI nd)]) (rest := []) fx [0, 2] [1] [(h0, ob 1 [.ref h2_7, .int (iI nd)]), (h2_7, aI g ((2 * (n : Int)).toNat) fc)] [(h1, aI g n f)] 3 0 (c_X1_setBranch l g h0 h2_7 ((2 * (n : Int)).toNat) fc (iI nd) a b nd (by first | omega | decide | assumption) (by first | omega | decide | assumption) (by first | omega | decide | assumption) (by first | exact hlo2 | exact hp4) (by first | omega | decide | assumption)) dX1_nodeBelow_54 k236 k238 k3 k54 k239 ykX1_setBranch rfl rfl rfl rfl rfl rfl rfl rfl (nl rfl) ⟨nl rfl, nl rfl⟩ ⟨(nl rfl), (by show ((2 * (n : Int)).toNat) + 0 ≤ (2 * n); omega)⟩ rfl (fun v9 w9 hu => ?_)
      obtain ⟨f2_10, rfl, rfl, u_11⟩ := hu
      refine v_is (wn := [(h1, aI g n f), (h0, ob 1 [.ref h2_7, .int (iI nd)]), (h2_7, aI g ((2 * (n : Int)).toNat) f2_10)]) (cn := 1) (sn := (2 * (n : Int)).toNat) (sn2 := []) rfl rfl rfl rfl ?_
      refine v_aload_n fx 1 dX1_nodeBelow_57 rfl rfl ?_
      refine v_dup fx dX1_nodeBelow_58 rfl rfl ?_
      refine v_get fx 1 1 inX1 k194 dX1_nodeBelow_59 rfl rfl (by decide) rfl rfl rfl ?_
      refine v_iconst fx dX1_nodeBelow_62 rfl ?_
      refine v_iadd fx (nd + 1) dX1_nodeBelow_63 (by rfl) rfl ?_
      refine v_put fx 1 1 [(h1, aI g n f), (h0, ob 1 [.ref h2_7, .int (iI (nd + 1))]), (h2_7, aI g ((2 * (n : Int)).toNat) f2_10)] inX1 tyX1_ok nmX1 k194 dX1_nodeBelow_64 rfl rfl (by decide) rfl rfl rfl rfl (nl rfl) rfl rfl ?_
      refine v_aload_n fx 1 dX1_nodeBelow_67 rfl rfl ?_
      refine v_get fx 1 1 inX1 k194 dX1_nodeBelow_68 rfl rfl (by decide) rfl rfl rfl ?_
      refine v_iconst fx dX1_nodeBelow_71 rfl ?_
      refine v_isub fx ((nd + 1) - 1) dX1_nodeBelow_72 (by rfl) rfl ?_
      exact v_iretE fx [(h0, ob 1 [.ref h2_7, .int (iI (nd + 1))]), (h2_7, aI g ((2 * (n : Int)).toNat) f2_10)] [1, 2] hr dX1_nodeBelow_73 rfl rfl ⟨((nd + 1) - 1), (nd + 1), ((2 * (n : Int)).toNat), f2_10, h2_7, rfl, rfl, (by first | omega | rfl | assumption), (by first | omega | rfl | assumption), (by first | omega | rfl | assumption), (by assumption)⟩
  ·
    refine v_iload_n fx 0 dX1_nodeBelow_11 rfl rfl ?_
    exact v_iretE fx [(h0, ob 1 [.ref h1, .int (iI nd)]), (h1, aI g n f)] [0, 1] hr dX1_nodeBelow_12 rfl rfl ⟨r_1, nd, n, f, h1, rfl, rfl, (by first | omega | rfl | assumption), (by first | omega | rfl | assumption), (by first | omega | rfl | assumption), (by exact hp4)⟩
