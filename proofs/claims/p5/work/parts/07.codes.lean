/-! codes come into a tree -/
def p2 (t : Int) : Prop := ∃ j : Nat, j ≤ 13 ∧ t = ((2 ^ j : Nat) : Int)
theorem p2_half {t : Int} (h : p2 t) (h2 : 1 < t) : p2 (t / 2) := by
  obtain ⟨j, hj, rfl⟩ := h
  cases j with
  | zero => simp at h2
  | succ j => exact ⟨j, by omega, by rw [Nat.pow_succ]; omega⟩
theorem p2_cases {t : Int} (h : p2 t) : t = 1 ∨ t = 2 ∨ t = 4 ∨ t = 8 ∨ t = 16 ∨ t = 32 ∨ t = 64 ∨ t = 128 ∨ t = 256 ∨ t = 512 ∨ t = 1024 ∨ t = 2048 ∨ t = 4096 ∨ t = 8192 := by
  obtain ⟨j, hj, rfl⟩ := h
  rcases (show j = 0 ∨ j = 1 ∨ j = 2 ∨ j = 3 ∨ j = 4 ∨ j = 5 ∨ j = 6 ∨ j = 7 ∨ j = 8 ∨ j = 9 ∨ j = 10 ∨ j = 11 ∨ j = 12 ∨ j = 13 by omega) with rfl | rfl | rfl | rfl | rfl | rfl | rfl | rfl | rfl | rfl | rfl | rfl | rfl | rfl <;> decide
theorem p2_even {t : Int} (h : p2 t) (h2 : 1 < t) : t = 2 * (t / 2) := by
  obtain ⟨j, hj, rfl⟩ := h
  cases j with
  | zero => simp at h2
  | succ j => rw [Nat.pow_succ]; omega
/-- a bit of a code, and how many are behind it -/
def bj (b : Int) (j : Nat) : Prop := (b = 0 ∧ j = 0) ∨ b = ((2 ^ j : Nat) : Int)
theorem bj_step {b : Int} {j : Nat} (h : bj b j) (h1 : 1 < b) : ∃ i, j = i + 1 ∧ bj (b / 2) i := by
  rcases h with ⟨rfl, -⟩ | rfl
  · omega
  · cases j with
    | zero => simp at h1
    | succ j => exact ⟨j, rfl, Or.inr (by rw [Nat.pow_succ]; omega)⟩
theorem bj_first {t : Int} (h : p2 t) : ∃ j, j ≤ 12 ∧ bj (t / 2) j := by
  obtain ⟨j, hj, rfl⟩ := h
  cases j with
  | zero => exact ⟨0, by omega, Or.inl ⟨by decide, rfl⟩⟩
  | succ j => exact ⟨j, by omega, Or.inr (by rw [Nat.pow_succ]; omega)⟩
theorem gT_len {k : Nat} (h : k < 4) : 1 ≤ (gT k).length ∧ (gT k).length ≤ 91 := by
  rcases (show k = 0 ∨ k = 1 ∨ k = 2 ∨ k = 3 by omega) with rfl | rfl | rfl | rfl <;> decide
theorem dX7_topBit_0 : decode cX7_topBit 0 = .ok (.sipush 8192, 3) := by decide +kernel
theorem dX7_topBit_3 : decode cX7_topBit 3 = .ok (.istore_n 1, 1) := by decide +kernel
theorem dX7_topBit_4 : decode cX7_topBit 4 = .ok (.iload_n 1, 1) := by decide +kernel
theorem dX7_topBit_5 : decode cX7_topBit 5 = .ok (.iconst 1, 1) := by decide +kernel
theorem dX7_topBit_6 : decode cX7_topBit 6 = .ok (.if_icmp .le 15, 3) := by decide +kernel
theorem dX7_topBit_9 : decode cX7_topBit 9 = .ok (.iload_n 1, 1) := by decide +kernel
theorem dX7_topBit_10 : decode cX7_topBit 10 = .ok (.iload_n 0, 1) := by decide +kernel
theorem dX7_topBit_11 : decode cX7_topBit 11 = .ok (.if_icmp .le 10, 3) := by decide +kernel
theorem dX7_topBit_14 : decode cX7_topBit 14 = .ok (.iload_n 1, 1) := by decide +kernel
theorem dX7_topBit_15 : decode cX7_topBit 15 = .ok (.iconst 1, 1) := by decide +kernel
theorem dX7_topBit_16 : decode cX7_topBit 16 = .ok (.ishr, 1) := by decide +kernel
theorem dX7_topBit_17 : decode cX7_topBit 17 = .ok (.istore_n 1, 1) := by decide +kernel
theorem dX7_topBit_18 : decode cX7_topBit 18 = .ok (.goto (-14), 3) := by decide +kernel
theorem dX7_topBit_21 : decode cX7_topBit 21 = .ok (.iload_n 1, 1) := by decide +kernel
theorem dX7_topBit_22 : decode cX7_topBit 22 = .ok (.ireturn, 1) := by decide +kernel
abbrev po_c_X7_topBit (g : GG) (x : Int) : Option Value → va_W → Prop := fun v8 w8 => ∃ t : Int, v8 = some (.int (iI t)) ∧ w8 = [] ∧ (p2 t) ∧ (1 ≤ t ∧ t ≤ 8192) ∧ (t ≤ x ∨ t = 1) ∧ (x < 2 * t ∨ t = 8192)
set_option maxHeartbeats 4000000 in
set_option maxRecDepth 100000 in
/-- the 1 before a code's own bits -/
theorem c_X7_topBit (l : Launch) (g : GG) (x : Int) (hp0 : -2147483648 ≤ x ∧ x < 2147483648) : Ct l g yX7_topBit (wM yX7_topBit cX7_topBit 2 (some .int)) (rmD 0 0 0) [.int (iI x)] [] (po_c_X7_topBit g x) := by
  refine Ct_of (by decide +kernel) (Nat.le_of_ble_eq_true rfl) ?_
  intro p9 e9 s9 m9 ag9 bl9 mt9 c9 A9 fx hr hnm
  refine v_sipush fx dX7_topBit_0 (by decide +kernel) rfl ?_
  refine v_istore_n fx [(1, .int (iI 8192)), (0, .int (iI x))] dX7_topBit_3 (by decide) rfl rfl ?_
  have L4 : ∀ (N : Nat) (b : Int), (p2 b) → (1 ≤ b ∧ b ≤ 8192) → (x < 2 * b ∨ b = 8192) → b.toNat < N → V p9 l e9 (rmD 0 0 0) s9 m9 ag9 bl9 mt9 c9 2 g A9 (MQ bl9 (cQ g (po_c_X7_topBit g x) A9) ag9 s9 0 0 A9) [] 0 0 [(0, .int (iI x)), (1, .int (iI b))] 4 [] := by
    intro N
    induction N with
    | zero => intro b hi4_0 hi4_1 hi4_2 hN; exact absurd hN (Nat.not_lt_zero _)
    | succ N ihL4 =>
      intro b hi4_0 hi4_1 hi4_2 hN4
      refine v_iload_n fx 1 dX7_topBit_4 rfl rfl ?_
      refine v_iconst fx dX7_topBit_5 rfl ?_
      refine v_icmp_le fx 21 dX7_topBit_6 (by decide) rfl (by omega) (by omega) (fun h_1 => ?_) (fun h_1 => ?_)
      ·
        refine v_iload_n fx 1 dX7_topBit_21 rfl rfl ?_
        exact v_iret fx [] [] hr dX7_topBit_22 rfl rfl (nl rfl) (nl rfl) ⟨b, rfl, rfl, (by assumption), (by first | omega | rfl | assumption), (by first | omega | rfl | assumption), (by first | omega | rfl | assumption)⟩
      ·
        refine v_iload_n fx 1 dX7_topBit_9 rfl rfl ?_
        refine v_iload_n fx 0 dX7_topBit_10 rfl rfl ?_
        refine v_icmp_le fx 21 dX7_topBit_11 (by decide) rfl (by omega) (by omega) (fun h_2 => ?_) (fun h_2 => ?_)
        ·
          refine v_iload_n fx 1 dX7_topBit_21 rfl rfl ?_
          exact v_iret fx [] [] hr dX7_topBit_22 rfl rfl (nl rfl) (nl rfl) ⟨b, rfl, rfl, (by assumption), (by first | omega | rfl | assumption), (by first | omega | rfl | assumption), (by first | omega | rfl | assumption)⟩
        ·
          have he := p2_even hi4_0 (by omega)
          refine v_iload_n fx 1 dX7_topBit_14 rfl rfl ?_
          refine v_iconst fx dX7_topBit_15 rfl ?_
          refine v_ishr fx (iI (b / 2)) dX7_topBit_16 (iI_shr (k := 1) (by omega) _ (by decide)) rfl ?_
          refine v_istore_n fx [(1, .int (iI (b / 2))), (0, .int (iI x))] dX7_topBit_17 (by decide) rfl rfl ?_
          refine v_goto fx 4 dX7_topBit_18 (by decide) ?_
          refine v_lv [1, 0] [(0, .int (iI x)), (1, .int (iI (b / 2)))] rfl ?_
          exact ihL4 (b / 2) (by exact p2_half hi4_0 (by omega)) (by omega) (by omega) (by omega)
  refine v_lv [1, 0] [(0, .int (iI x)), (1, .int (iI 8192))] rfl ?_
  exact L4 _ 8192 (by exact ⟨13, by omega, by decide⟩) (by omega) (by omega) (Nat.lt_succ_self _)
theorem dX1_add_0 : decode cX1_add 0 = .ok (.iconst 0, 1) := by decide +kernel
theorem dX1_add_1 : decode cX1_add 1 = .ok (.istore_n 3, 1) := by decide +kernel
theorem dX1_add_2 : decode cX1_add 2 = .ok (.iload_n 1, 1) := by decide +kernel
theorem dX1_add_3 : decode cX1_add 3 = .ok (.invokestatic 23, 3) := by decide +kernel
theorem dX1_add_6 : decode cX1_add 6 = .ok (.iconst 1, 1) := by decide +kernel
theorem dX1_add_7 : decode cX1_add 7 = .ok (.ishr, 1) := by decide +kernel
theorem dX1_add_8 : decode cX1_add 8 = .ok (.istore 4, 2) := by decide +kernel
theorem dX1_add_10 : decode cX1_add 10 = .ok (.iload 4, 2) := by decide +kernel
theorem dX1_add_12 : decode cX1_add 12 = .ok (.iconst 1, 1) := by decide +kernel
theorem dX1_add_13 : decode cX1_add 13 = .ok (.if_icmp .le 30, 3) := by decide +kernel
theorem dX1_add_16 : decode cX1_add 16 = .ok (.aload_n 0, 1) := by decide +kernel
theorem dX1_add_17 : decode cX1_add 17 = .ok (.iload_n 3, 1) := by decide +kernel
theorem dX1_add_18 : decode cX1_add 18 = .ok (.iload_n 1, 1) := by decide +kernel
theorem dX1_add_19 : decode cX1_add 19 = .ok (.iload 4, 2) := by decide +kernel
theorem dX1_add_21 : decode cX1_add 21 = .ok (.iand, 1) := by decide +kernel
theorem dX1_add_22 : decode cX1_add 22 = .ok (.ifCond .eq 7, 3) := by decide +kernel
theorem dX1_add_25 : decode cX1_add 25 = .ok (.iconst 1, 1) := by decide +kernel
theorem dX1_add_26 : decode cX1_add 26 = .ok (.goto 4, 3) := by decide +kernel
theorem dX1_add_29 : decode cX1_add 29 = .ok (.iconst 0, 1) := by decide +kernel
theorem dX1_add_30 : decode cX1_add 30 = .ok (.invokevirtual 27, 3) := by decide +kernel
theorem dX1_add_33 : decode cX1_add 33 = .ok (.istore_n 3, 1) := by decide +kernel
theorem dX1_add_34 : decode cX1_add 34 = .ok (.iload 4, 2) := by decide +kernel
theorem dX1_add_36 : decode cX1_add 36 = .ok (.iconst 1, 1) := by decide +kernel
theorem dX1_add_37 : decode cX1_add 37 = .ok (.ishr, 1) := by decide +kernel
theorem dX1_add_38 : decode cX1_add 38 = .ok (.istore 4, 2) := by decide +kernel
theorem dX1_add_40 : decode cX1_add 40 = .ok (.goto (-30), 3) := by decide +kernel
theorem dX1_add_43 : decode cX1_add 43 = .ok (.aload_n 0, 1) := by decide +kernel
theorem dX1_add_44 : decode cX1_add 44 = .ok (.iload_n 3, 1) := by decide +kernel
theorem dX1_add_45 : decode cX1_add 45 = .ok (.iload_n 1, 1) := by decide +kernel
theorem dX1_add_46 : decode cX1_add 46 = .ok (.iconst 1, 1) := by decide +kernel
theorem dX1_add_47 : decode cX1_add 47 = .ok (.iand, 1) := by decide +kernel
theorem dX1_add_48 : decode cX1_add 48 = .ok (.ifCond .eq 7, 3) := by decide +kernel
theorem dX1_add_51 : decode cX1_add 51 = .ok (.iconst 1, 1) := by decide +kernel
theorem dX1_add_52 : decode cX1_add 52 = .ok (.goto 4, 3) := by decide +kernel
theorem dX1_add_55 : decode cX1_add 55 = .ok (.iconst 0, 1) := by decide +kernel
theorem dX1_add_56 : decode cX1_add 56 = .ok (.iconst (-1), 1) := by decide +kernel
theorem dX1_add_57 : decode cX1_add 57 = .ok (.iload_n 2, 1) := by decide +kernel
theorem dX1_add_58 : decode cX1_add 58 = .ok (.isub, 1) := by decide +kernel
theorem dX1_add_59 : decode cX1_add 59 = .ok (.invokevirtual 31, 3) := by decide +kernel
theorem dX1_add_62 : decode cX1_add 62 = .ok (.return_, 1) := by decide +kernel
abbrev po_c_X1_add (g : GG) (h0 : Nat) (h1 : Nat) (n : Nat) (f : Nat → Int32) (nd : Int) (x : Int) (num : Int) : Option Value → va_W → Nat → Nat → Prop := fun v8 w8 kc8 ks8 => ∃ nd2 : Int, ∃ n2 : Nat, ∃ f2 : Nat → Int32, ∃ h2 : Nat, v8 = none ∧ w8 = [(h0, ob 1 [.ref h2, .int (iI nd2)]), (h2, aI g n2 f2)] ∧ (nd ≤ nd2 ∧ nd2 ≤ nd + 12) ∧ (((n2 : Nat) : Int) ≤ 64 ∨ ((n2 : Nat) : Int) ≤ 4 * nd2 + 2) ∧ (1 ≤ n2) ∧ (ks8 + 2 * n ≤ 2 * n2 ∧ kc8 ≤ 12) ∧ (lo f2)
set_option maxHeartbeats 4000000 in
set_option maxRecDepth 100000 in
/-- a code comes into the tree -/
theorem c_X1_add (l : Launch) (g : GG) (h0 : Nat) (h1 : Nat) (n : Nat) (f : Nat → Int32) (nd : Int) (x : Int) (num : Int) (hp0 : -2147483648 ≤ x ∧ x < 2147483648) (hp1 : 0 ≤ num ∧ num ≤ 104) (hp2 : 1 ≤ n) (hp3 : 1 ≤ nd ∧ nd ≤ 1400) (hp4 : ((n : Nat) : Int) ≤ 64 ∨ ((n : Nat) : Int) ≤ 4 * nd + 2) (hp5 : lo f) : CtE l g yX1_add (wM yX1_add cX1_add 5 none) (rmD 3 13 23000) [.ref h0, .int (iI x), .int (iI num)] [(h0, ob 1 [.ref h1, .int (iI nd)]), (h1, aI g n f)] (po_c_X1_add g h0 h1 n f nd x num) := by
  refine CtE_of (by decide +kernel) (Nat.le_of_ble_eq_true rfl) ?_
  intro p9 e9 s9 m9 ag9 bl9 mt9 c9 A9 fx hr hnm
  refine v_iconst fx dX1_add_0 rfl ?_
  refine v_istore_n fx [(3, .int (iI 0)), (0, .ref h0), (1, .int (iI x)), (2, .int (iI num))] dX1_add_1 (by decide) rfl rfl ?_
  refine v_iload_n fx 2 dX1_add_2 rfl rfl ?_
  refine v_callSN (As := [.int (iI x)]) (rest := []) fx [] [0, 1] [] [(h0, ob 1 [.ref h1, .int (iI nd)]), (h1, aI g n f)] 1 (c_X7_topBit l g x (by first | omega | decide | assumption)) dX1_add_3 n211 k212 k46 k213 ykX7_topBit rfl rfl rfl rfl rfl (nl rfl) ⟨nl rfl, nl rfl⟩ ⟨(nl rfl), (nl rfl)⟩ rfl (fun v9 w9 hu => ?_)
  obtain ⟨t_1, rfl, rfl, u_2, u_3, u_4, u_5⟩ := hu
  refine v_is (wn := [(h0, ob 1 [.ref h1, .int (iI nd)]), (h1, aI g n f)]) (cn := 0) (sn := 0) (sn2 := [.int (iI t_1)]) rfl rfl rfl rfl ?_
  refine v_iconst fx dX1_add_6 rfl ?_
  refine v_ishr fx (iI (t_1 / 2)) dX1_add_7 (iI_shr (k := 1) (by omega) _ (by decide)) rfl ?_
  obtain ⟨j0, hj0, hbj0⟩ := bj_first (by assumption)
  refine v_istore fx [(4, .int (iI (t_1 / 2))), (3, .int (iI 0)), (0, .ref h0), (1, .int (iI x)), (2, .int (iI num))] dX1_add_8 (by decide) rfl rfl ?_
  have L10 : ∀ (N : Nat) (j : Nat) (b : Int) (node : Int) (nd1 : Int) (n1 : Nat) (f1 : Nat → Int32) (w1 : Nat) (cl : Nat) (sl : Nat), (bj b j) → (0 ≤ b ∧ b ≤ 4096) → (nd ≤ nd1 ∧ nd1 + j ≤ nd + 12) → (-2147483648 ≤ node ∧ node < 2147483648) → (((n1 : Nat) : Int) ≤ 64 ∨ ((n1 : Nat) : Int) ≤ 4 * nd1 + 2) → (1 ≤ n1 ∧ n ≤ n1) → (cl + j ≤ 12 ∧ sl + 2 * n ≤ 2 * n1) → (lo f1) → b.toNat < N → V p9 l e9 (rmD 3 13 23000) s9 m9 ag9 bl9 mt9 c9 5 g A9 (MQE bl9 (cQE g (po_c_X1_add g h0 h1 n f nd x num) A9) ag9 s9 A9) [(h0, ob 1 [.ref w1, .int (iI nd1)]), (w1, aI g n1 f1)] cl sl [(0, .ref h0), (1, .int (iI x)), (2, .int (iI num)), (3, .int (iI node)), (4, .int (iI b))] 10 [] := by
    intro N
    induction N with
    | zero => intro j b node nd1 n1 f1 w1 cl sl hi10_0 hi10_1 hi10_2 hi10_3 hi10_4 hi10_5 hi10_6 hi10_7 hN; exact absurd hN (Nat.not_lt_zero _)
    | succ N ihL10 =>
      intro j b node nd1 n1 f1 w1 cl sl hi10_0 hi10_1 hi10_2 hi10_3 hi10_4 hi10_5 hi10_6 hi10_7 hN10
      refine v_iload fx 4 dX1_add_10 rfl rfl ?_
      refine v_iconst fx dX1_add_12 rfl ?_
      refine v_icmp_le fx 43 dX1_add_13 (by decide) rfl (by omega) (by omega) (fun h_6 => ?_) (fun h_6 => ?_)
      ·
        refine v_aload_n fx 0 dX1_add_43 rfl rfl ?_
        refine v_iload_n fx 3 dX1_add_44 rfl rfl ?_
        refine v_iload_n fx 1 dX1_add_45 rfl rfl ?_
        refine v_iconst fx dX1_add_46 rfl ?_
        obtain ⟨t_7, et_7⟩ : ∃ x9 : Int32, (iI x) &&& (iI 1) = x9 := ⟨_, rfl⟩
        refine v_iand fx t_7 dX1_add_47 et_7 rfl ?_
        refine v_any (fun z_8 hz_8 ez_8 => ?_)
        refine v_if_eq fx 55 dX1_add_48 (by decide) rfl (by omega) (fun h_9 => ?_) (fun h_9 => ?_)
        ·
          refine v_iconst fx dX1_add_55 rfl ?_
          refine v_iconst fx dX1_add_56 rfl ?_
          refine v_iload_n fx 2 dX1_add_57 rfl rfl ?_
          refine v_isub fx ((-1) - num) dX1_add_58 (by rfl) rfl ?_
          refine v_callV (As := [.int (iI node), .int (iI 0), .int (iI ((-1) - num))]) (rest := []) fx [0, 1] [] [(h0, ob 1 [.ref w1, .int (iI nd1)]), (w1, aI g n1 f1)] [] 3 0 (c_X1_setBranch l g h0 w1 n1 f1 (iI nd1) node 0 ((-1) - num) (by first | omega | decide | assumption) (by first | omega | decide | assumption) (by first | omega | decide | assumption) (by first | omega | decide | assumption) (by first | omega | decide | assumption)) dX1_add_59 k236 k238 k3 k54 k239 ykX1_setBranch rfl rfl rfl rfl rfl rfl rfl rfl (nl rfl) ⟨nl rfl, nl rfl⟩ ⟨(by show cl + 0 ≤ 13; omega), (by show sl + 0 ≤ 23000; omega)⟩ rfl (fun v9 w9 hu => ?_)
          obtain ⟨f2_10, rfl, rfl, u_11⟩ := hu
          refine v_is (wn := [(h0, ob 1 [.ref w1, .int (iI nd1)]), (w1, aI g n1 f2_10)]) (cn := cl) (sn := sl) (sn2 := []) rfl rfl rfl rfl ?_
          exact v_vretE fx [(h0, ob 1 [.ref w1, .int (iI nd1)]), (w1, aI g n1 f2_10)] [0, 1] hr dX1_add_62 rfl rfl ⟨nd1, n1, f2_10, w1, rfl, rfl, (by first | omega | rfl | assumption), (by first | omega | rfl | assumption), (by first | omega | rfl | assumption), (by first | omega | rfl | assumption), (by assumption)⟩
        ·
          refine v_iconst fx dX1_add_51 rfl ?_
          refine v_goto fx 56 dX1_add_52 (by decide) ?_
          refine v_iconst fx dX1_add_56 rfl ?_
          refine v_iload_n fx 2 dX1_add_57 rfl rfl ?_
          refine v_isub fx ((-1) - num) dX1_add_58 (by rfl) rfl ?_
          refine v_callV (As := [.int (iI node), .int (iI 1), .int (iI ((-1) - num))]) (rest := []) fx [0, 1] [] [(h0, ob 1 [.ref w1, .int (iI nd1)]), (w1, aI g n1 f1)] [] 3 0 (c_X1_setBranch l g h0 w1 n1 f1 (iI nd1) node 1 ((-1) - num) (by first | omega | decide | assumption) (by first | omega | decide | assumption) (by first | omega | decide | assumption) (by first | omega | decide | assumption) (by first | omega | decide | assumption)) dX1_add_59 k236 k238 k3 k54 k239 ykX1_setBranch rfl rfl rfl rfl rfl rfl rfl rfl (nl rfl) ⟨nl rfl, nl rfl⟩ ⟨(by show cl + 0 ≤ 13; omega), (by show sl + 0 ≤ 23000; omega)⟩ rfl (fun v9 w9 hu => ?_)
          obtain ⟨f2_12, rfl, rfl, u_13⟩ := hu
          refine v_is (wn := [(h0, ob 1 [.ref w1, .int (iI nd1)]), (w1, aI g n1 f2_12)]) (cn := cl) (sn := sl) (sn2 := []) rfl rfl rfl rfl ?_
          exact v_vretE fx [(h0, ob 1 [.ref w1, .int (iI nd1)]), (w1, aI g n1 f2_12)] [0, 1] hr dX1_add_62 rfl rfl ⟨nd1, n1, f2_12, w1, rfl, rfl, (by first | omega | rfl | assumption), (by first | omega | rfl | assumption), (by first | omega | rfl | assumption), (by first | omega | rfl | assumption), (by assumption)⟩
      ·
        obtain ⟨j1, rfl, hbj1⟩ := bj_step hi10_0 (by omega)
        refine v_aload_n fx 0 dX1_add_16 rfl rfl ?_
        refine v_iload_n fx 3 dX1_add_17 rfl rfl ?_
        refine v_iload_n fx 1 dX1_add_18 rfl rfl ?_
        refine v_iload fx 4 dX1_add_19 rfl rfl ?_
        obtain ⟨t_14, et_14⟩ : ∃ x9 : Int32, (iI x) &&& (iI b) = x9 := ⟨_, rfl⟩
        refine v_iand fx t_14 dX1_add_21 et_14 rfl ?_
        refine v_any (fun z_15 hz_15 ez_15 => ?_)
        refine v_if_eq fx 29 dX1_add_22 (by decide) rfl (by omega) (fun h_16 => ?_) (fun h_16 => ?_)
        ·
          refine v_iconst fx dX1_add_29 rfl ?_
          refine v_callVE (As := [.int (iI node), .int (iI 0)]) (rest := []) fx [0, 1] [] [(h0, ob 1 [.ref w1, .int (iI nd1)]), (w1, aI g n1 f1)] [] 2 0 (c_X1_nodeBelow l g h0 w1 n1 f1 nd1 node 0 (by first | omega | decide | assumption) (by first | omega | decide | assumption) (by first | omega | decide | assumption) (by first | omega | decide | assumption) (by first | omega | decide | assumption)) dX1_add_30 k214 k216 k1 k54 k217 ykX1_nodeBelow rfl rfl rfl rfl rfl rfl rfl rfl (nl rfl) ⟨nl rfl, nl rfl⟩ ⟨(by show cl + 1 ≤ 13; omega), (by show sl + (2 * n1) ≤ 23000; omega)⟩ rfl (fun v9 w9 kc_17 ks_18 hu => ?_)
          obtain ⟨r_19, nd2_20, n2_21, f2_22, h2_23, rfl, rfl, u_24, u_25, u_26, u_27⟩ := hu
          refine v_is (wn := [(h0, ob 1 [.ref h2_23, .int (iI nd2_20)]), (h2_23, aI g n2_21 f2_22)]) (cn := cl + kc_17) (sn := sl + ks_18) (sn2 := [.int (iI r_19)]) rfl rfl rfl rfl ?_
          refine v_istore_n fx [(3, .int (iI r_19)), (0, .ref h0), (1, .int (iI x)), (2, .int (iI num)), (4, .int (iI b))] dX1_add_33 (by decide) rfl rfl ?_
          refine v_iload fx 4 dX1_add_34 rfl rfl ?_
          refine v_iconst fx dX1_add_36 rfl ?_
          refine v_ishr fx (iI (b / 2)) dX1_add_37 (iI_shr (k := 1) (by omega) _ (by decide)) rfl ?_
          refine v_istore fx [(4, .int (iI (b / 2))), (3, .int (iI r_19)), (0, .ref h0), (1, .int (iI x)), (2, .int (iI num))] dX1_add_38 (by decide) rfl rfl ?_
          refine v_goto fx 10 dX1_add_40 (by decide) ?_
          refine v_lv [2, 3, 4, 1, 0] [(0, .ref h0), (1, .int (iI x)), (2, .int (iI num)), (3, .int (iI r_19)), (4, .int (iI (b / 2)))] rfl ?_
          exact ihL10 j1 (b / 2) r_19 nd2_20 n2_21 f2_22 h2_23 (cl + kc_17) (sl + ks_18) (by assumption) (by omega) (by omega) (by omega) (by omega) (by omega) (by omega) (by assumption) (by omega)
        ·
          refine v_iconst fx dX1_add_25 rfl ?_
          refine v_goto fx 30 dX1_add_26 (by decide) ?_
          refine v_callVE (As := [.int (iI node), .int (iI 1)]) (rest := []) fx [0, 1] [] [(h0, ob 1 [.ref w1, .int (iI nd1)]), (w1, aI g n1 f1)] [] 2 0 (c_X1_nodeBelow l g h0 w1 n1 f1 nd1 node 1 (by first | omega | decide | assumption) (by first | omega | decide | assumption) (by first | omega | decide | assumption) (by first | omega | decide | assumption) (by first | omega | decide | assumption)) dX1_add_30 k214 k216 k1 k54 k217 ykX1_nodeBelow rfl rfl rfl rfl rfl rfl rfl rfl (nl rfl) ⟨nl rfl, nl rfl⟩ ⟨(by show cl + 1 ≤ 13; omega), (by show sl + (2 * n1) ≤ 23000; omega)⟩ rfl (fun v9 w9 kc_28 ks_29 hu => ?_)
          obtain ⟨r_30, nd2_31, n2_32, f2_33, h2_34, rfl, rfl, u_35, u_36, u_37, u_38⟩ := hu
          refine v_is (wn := [(h0, ob 1 [.ref h2_34, .int (iI nd2_31)]), (h2_34, aI g n2_32 f2_33)]) (cn := cl + kc_28) (sn := sl + ks_29) (sn2 := [.int (iI r_30)]) rfl rfl rfl rfl ?_
          refine v_istore_n fx [(3, .int (iI r_30)), (0, .ref h0), (1, .int (iI x)), (2, .int (iI num)), (4, .int (iI b))] dX1_add_33 (by decide) rfl rfl ?_
          refine v_iload fx 4 dX1_add_34 rfl rfl ?_
          refine v_iconst fx dX1_add_36 rfl ?_
          refine v_ishr fx (iI (b / 2)) dX1_add_37 (iI_shr (k := 1) (by omega) _ (by decide)) rfl ?_
          refine v_istore fx [(4, .int (iI (b / 2))), (3, .int (iI r_30)), (0, .ref h0), (1, .int (iI x)), (2, .int (iI num))] dX1_add_38 (by decide) rfl rfl ?_
          refine v_goto fx 10 dX1_add_40 (by decide) ?_
          refine v_lv [2, 3, 4, 1, 0] [(0, .ref h0), (1, .int (iI x)), (2, .int (iI num)), (3, .int (iI r_30)), (4, .int (iI (b / 2)))] rfl ?_
          exact ihL10 j1 (b / 2) r_30 nd2_31 n2_32 f2_33 h2_34 (cl + kc_28) (sl + ks_29) (by assumption) (by omega) (by omega) (by omega) (by omega) (by omega) (by omega) (by assumption) (by omega)
  refine v_lv [2, 3, 4, 1, 0] [(0, .ref h0), (1, .int (iI x)), (2, .int (iI num)), (3, .int (iI 0)), (4, .int (iI (t_1 / 2)))] rfl ?_
  exact L10 _ j0 (t_1 / 2) 0 nd n f h1 0 0 (by exact hbj0) (by omega) (by omega) (by omega) (by omega) (by omega) (by omega) (by exact hp5) (Nat.lt_succ_self _)
theorem dX1_addAll_0 : decode cX1_addAll 0 = .ok (.iconst 0, 1) := by decide +kernel
theorem dX1_addAll_1 : decode cX1_addAll 1 = .ok (.istore_n 3, 1) := by decide +kernel
theorem dX1_addAll_2 : decode cX1_addAll 2 = .ok (.iload_n 3, 1) := by decide +kernel
theorem dX1_addAll_3 : decode cX1_addAll 3 = .ok (.aload_n 1, 1) := by decide +kernel
theorem dX1_addAll_4 : decode cX1_addAll 4 = .ok (.arraylength, 1) := by decide +kernel
theorem dX1_addAll_5 : decode cX1_addAll 5 = .ok (.if_icmp .ge 19, 3) := by decide +kernel
theorem dX1_addAll_8 : decode cX1_addAll 8 = .ok (.aload_n 0, 1) := by decide +kernel
theorem dX1_addAll_9 : decode cX1_addAll 9 = .ok (.aload_n 1, 1) := by decide +kernel
theorem dX1_addAll_10 : decode cX1_addAll 10 = .ok (.iload_n 3, 1) := by decide +kernel
theorem dX1_addAll_11 : decode cX1_addAll 11 = .ok (.iaload, 1) := by decide +kernel
theorem dX1_addAll_12 : decode cX1_addAll 12 = .ok (.iload_n 2, 1) := by decide +kernel
theorem dX1_addAll_13 : decode cX1_addAll 13 = .ok (.iload_n 3, 1) := by decide +kernel
theorem dX1_addAll_14 : decode cX1_addAll 14 = .ok (.iadd, 1) := by decide +kernel
theorem dX1_addAll_15 : decode cX1_addAll 15 = .ok (.invokevirtual 19, 3) := by decide +kernel
theorem dX1_addAll_18 : decode cX1_addAll 18 = .ok (.iinc 3 1, 3) := by decide +kernel
theorem dX1_addAll_21 : decode cX1_addAll 21 = .ok (.goto (-19), 3) := by decide +kernel
theorem dX1_addAll_24 : decode cX1_addAll 24 = .ok (.return_, 1) := by decide +kernel
abbrev po_c_X1_addAll (g : GG) (h0 : Nat) (h1 : Nat) (n : Nat) (f : Nat → Int32) (nd : Int) (tk : Nat) (num : Int) : Option Value → va_W → Nat → Nat → Prop := fun v8 w8 kc8 ks8 => ∃ nd2 : Int, ∃ n2 : Nat, ∃ f2 : Nat → Int32, ∃ h2 : Nat, v8 = none ∧ w8 = [(h0, ob 1 [.ref h2, .int (iI nd2)]), (h2, aI g n2 f2)] ∧ (nd ≤ nd2 ∧ nd2 ≤ nd + 12 * ((gT tk).length : Int)) ∧ (((n2 : Nat) : Int) ≤ 64 ∨ ((n2 : Nat) : Int) ≤ 4 * nd2 + 2) ∧ (1 ≤ n2) ∧ (ks8 + 2 * n ≤ 2 * n2 ∧ kc8 ≤ 1092) ∧ (lo f2)
set_option maxHeartbeats 4000000 in
set_option maxRecDepth 100000 in
/-- all codes of a table come into the tree -/
theorem c_X1_addAll (l : Launch) (g : GG) (h0 : Nat) (h1 : Nat) (n : Nat) (f : Nat → Int32) (nd : Int) (tk : Nat) (num : Int) (hp0 : tk < 4) (hp1 : 0 ≤ num ∧ num + ((gT tk).length : Int) ≤ 104) (hp2 : 1 ≤ n) (hp3 : 1 ≤ nd ∧ nd + 12 * ((gT tk).length : Int) ≤ 1400) (hp4 : ((n : Nat) : Int) ≤ 64 ∨ ((n : Nat) : Int) ≤ 4 * nd + 2) (hp5 : lo f) : CtE l g yX1_addAll (wM yX1_addAll cX1_addAll 4 none) (rmD 4 1200 35000) [.ref h0, .ref (g.2.2.1 tk), .int (iI num)] [(h0, ob 1 [.ref h1, .int (iI nd)]), (h1, aI g n f)] (po_c_X1_addAll g h0 h1 n f nd tk num) := by
  refine CtE_of (by decide +kernel) (Nat.le_of_ble_eq_true rfl) ?_
  intro p9 e9 s9 m9 ag9 bl9 mt9 c9 A9 fx hr hnm
  have hgl := gT_len hp0
  refine v_iconst fx dX1_addAll_0 rfl ?_
  refine v_istore_n fx [(3, .int (iI 0)), (0, .ref h0), (1, .ref (g.2.2.1 tk)), (2, .int (iI num))] dX1_addAll_1 (by decide) rfl rfl ?_
  have L2 : ∀ (N : Nat) (i : Int) (nd1 : Int) (n1 : Nat) (f1 : Nat → Int32) (w1 : Nat) (cl : Nat) (sl : Nat), (0 ≤ i ∧ i ≤ ((gT tk).length : Int)) → (nd ≤ nd1 ∧ nd1 ≤ nd + 12 * i) → (((n1 : Nat) : Int) ≤ 64 ∨ ((n1 : Nat) : Int) ≤ 4 * nd1 + 2) → (1 ≤ n1 ∧ n ≤ n1) → ((cl : Int) ≤ 12 * i ∧ sl + 2 * n ≤ 2 * n1) → (lo f1) → ((((gT tk).length : Int) - i).toNat) < N → V p9 l e9 (rmD 4 1200 35000) s9 m9 ag9 bl9 mt9 c9 4 g A9 (MQE bl9 (cQE g (po_c_X1_addAll g h0 h1 n f nd tk num) A9) ag9 s9 A9) [(h0, ob 1 [.ref w1, .int (iI nd1)]), (w1, aI g n1 f1)] cl sl [(0, .ref h0), (1, .ref (g.2.2.1 tk)), (2, .int (iI num)), (3, .int (iI i))] 2 [] := by
    intro N
    induction N with
    | zero => intro i nd1 n1 f1 w1 cl sl hi2_0 hi2_1 hi2_2 hi2_3 hi2_4 hi2_5 hN; exact absurd hN (Nat.not_lt_zero _)
    | succ N ihL2 =>
      intro i nd1 n1 f1 w1 cl sl hi2_0 hi2_1 hi2_2 hi2_3 hi2_4 hi2_5 hN2
      refine v_iload_n fx 3 dX1_addAll_2 rfl rfl ?_
      refine v_aload_n fx 1 dX1_addAll_3 rfl rfl ?_
      refine v_tlen (n := ((gT tk).length : Int)) fx tk (by omega) (by rfl) dX1_addAll_4 rfl ?_
      refine v_icmp_ge fx 24 dX1_addAll_5 (by decide) rfl (by omega) (by omega) (fun h_1 => ?_) (fun h_1 => ?_)
      ·
        exact v_vretE fx [(h0, ob 1 [.ref w1, .int (iI nd1)]), (w1, aI g n1 f1)] [0, 1] hr dX1_addAll_24 rfl rfl ⟨nd1, n1, f1, w1, rfl, rfl, (by first | omega | rfl | assumption), (by first | omega | rfl | assumption), (by first | omega | rfl | assumption), (by first | omega | rfl | assumption), (by assumption)⟩
      ·
        refine v_aload_n fx 0 dX1_addAll_8 rfl rfl ?_
        refine v_aload_n fx 1 dX1_addAll_9 rfl rfl ?_
        refine v_iload_n fx 3 dX1_addAll_10 rfl rfl ?_
        refine v_tald fx tk (by first | decide | omega) (by omega) dX1_addAll_11 rfl ?_
        refine v_any (fun z_2 hz_2 ez_2 => ?_)
        refine v_iload_n fx 2 dX1_addAll_12 rfl rfl ?_
        refine v_iload_n fx 3 dX1_addAll_13 rfl rfl ?_
        refine v_iadd fx (num + i) dX1_addAll_14 (by rfl) rfl ?_
        refine v_callVE (As := [.int (iI z_2), .int (iI (num + i))]) (rest := []) fx [0, 1] [] [(h0, ob 1 [.ref w1, .int (iI nd1)]), (w1, aI g n1 f1)] [] 2 0 (c_X1_add l g h0 w1 n1 f1 nd1 z_2 (num + i) (by first | omega | decide | assumption) (by first | omega | decide | assumption) (by first | omega | decide | assumption) (by first | omega | decide | assumption) (by first | omega | decide | assumption) (by first | omega | decide | assumption)) dX1_addAll_15 k207 k209 k0 k54 k210 ykX1_add rfl rfl rfl rfl rfl rfl rfl rfl (nl rfl) ⟨nl rfl, nl rfl⟩ ⟨(by show cl + 13 ≤ 1200; omega), (by show sl + 23000 ≤ 35000; omega)⟩ rfl (fun v9 w9 kc_3 ks_4 hu => ?_)
        obtain ⟨nd2_5, n2_6, f2_7, h2_8, rfl, rfl, u_9, u_10, u_11, u_12, u_13⟩ := hu
        refine v_is (wn := [(h0, ob 1 [.ref h2_8, .int (iI nd2_5)]), (h2_8, aI g n2_6 f2_7)]) (cn := cl + kc_3) (sn := sl + ks_4) (sn2 := []) rfl rfl rfl rfl ?_
        refine v_iinc fx 3 (i + 1) [(3, .int (iI (i + 1))), (0, .ref h0), (1, .ref (g.2.2.1 tk)), (2, .int (iI num))] dX1_addAll_18 rfl (by omega) (by decide) rfl rfl ?_
        refine v_goto fx 2 dX1_addAll_21 (by decide) ?_
        refine v_lv [1, 2, 3, 0] [(0, .ref h0), (1, .ref (g.2.2.1 tk)), (2, .int (iI num)), (3, .int (iI (i + 1)))] rfl ?_
        exact ihL2 (i + 1) nd2_5 n2_6 f2_7 h2_8 (cl + kc_3) (sl + ks_4) (by omega) (by omega) (by omega) (by omega) (by omega) (by assumption) (by omega)
  refine v_lv [1, 2, 3, 0] [(0, .ref h0), (1, .ref (g.2.2.1 tk)), (2, .int (iI num)), (3, .int (iI 0))] rfl ?_
  exact L2 _ 0 nd n f h1 0 0 (by omega) (by omega) (by omega) (by omega) (by omega) (by exact hp5) (Nat.lt_succ_self _)
