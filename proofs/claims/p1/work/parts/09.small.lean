/-! METHODS of the class, as far as a fresh object needs them -/
/-- the bit of a code before which i bits are still to come, that one with them -/
def hb2 (i : Nat) : Int := ((2 ^ i : Nat) : Int) / 2
theorem hb2_step {b : Int} {i : Nat} (h : b = hb2 i) (hb : 0 < b) : ∃ k, i = k + 1 ∧ b / 2 = hb2 k := by
  unfold hb2 at h ⊢
  cases i with
  | zero => simp at h; omega
  | succ k => exact ⟨k, rfl, by rw [h, Nat.pow_succ]; omega⟩
theorem hb2_end {b : Int} {i : Nat} (h : b = hb2 i) (hb : b ≤ 0) : i = 0 := by
  unfold hb2 at h
  cases i with
  | zero => rfl
  | succ k =>
    have h1 : 0 < 2 ^ k := Nat.two_pow_pos k
    rw [Nat.pow_succ] at h
    omega
theorem hb2_bnd {b : Int} {i : Nat} (h : b = hb2 i) (hi : i ≤ 12) : 0 ≤ b ∧ b ≤ 2048 := by
  unfold hb2 at h
  have h1 : 2 ^ i ≤ 2 ^ 12 := Nat.pow_le_pow_right (by decide) hi
  have h2 : 2 ^ 12 = 4096 := by decide
  generalize 2 ^ i = k at h h1
  omega
theorem top_eq {t x : Int} {j : Nat} (hj : j ≤ 12) (hx : ((2 ^ j : Nat) : Int) ≤ x ∧ x < 2 * ((2 ^ j : Nat) : Int)) (h : p2 t) (h1 : t ≤ x ∨ t = 1) (h2 : x < 2 * t ∨ t = 8192) : t = ((2 ^ j : Nat) : Int) := by
  have h3 := p2_cases h
  rcases (show j = 0 ∨ j = 1 ∨ j = 2 ∨ j = 3 ∨ j = 4 ∨ j = 5 ∨ j = 6 ∨ j = 7 ∨ j = 8 ∨ j = 9 ∨ j = 10 ∨ j = 11 ∨ j = 12 by omega) with rfl | rfl | rfl | rfl | rfl | rfl | rfl | rfl | rfl | rfl | rfl | rfl | rfl <;> simp at hx ⊢ <;> omega
theorem dJ7_fill_53178_0 : decode cJ7_fill_53178 0 = .ok (.iconst 0, 1) := by decide +kernel
theorem dJ7_fill_53178_1 : decode cJ7_fill_53178 1 = .ok (.istore_n 2, 1) := by decide +kernel
theorem dJ7_fill_53178_2 : decode cJ7_fill_53178 2 = .ok (.aload_n 0, 1) := by decide +kernel
theorem dJ7_fill_53178_3 : decode cJ7_fill_53178 3 = .ok (.arraylength, 1) := by decide +kernel
theorem dJ7_fill_53178_4 : decode cJ7_fill_53178 4 = .ok (.istore_n 3, 1) := by decide +kernel
theorem dJ7_fill_53178_5 : decode cJ7_fill_53178 5 = .ok (.iload_n 2, 1) := by decide +kernel
theorem dJ7_fill_53178_6 : decode cJ7_fill_53178 6 = .ok (.iload_n 3, 1) := by decide +kernel
theorem dJ7_fill_53178_7 : decode cJ7_fill_53178 7 = .ok (.if_icmp .ge 13, 3) := by decide +kernel
theorem dJ7_fill_53178_10 : decode cJ7_fill_53178 10 = .ok (.aload_n 0, 1) := by decide +kernel
theorem dJ7_fill_53178_11 : decode cJ7_fill_53178 11 = .ok (.iload_n 2, 1) := by decide +kernel
theorem dJ7_fill_53178_12 : decode cJ7_fill_53178 12 = .ok (.iload_n 1, 1) := by decide +kernel
theorem dJ7_fill_53178_13 : decode cJ7_fill_53178 13 = .ok (.iastore, 1) := by decide +kernel
theorem dJ7_fill_53178_14 : decode cJ7_fill_53178 14 = .ok (.iinc 2 1, 3) := by decide +kernel
theorem dJ7_fill_53178_17 : decode cJ7_fill_53178 17 = .ok (.goto (-12), 3) := by decide +kernel
theorem dJ7_fill_53178_20 : decode cJ7_fill_53178 20 = .ok (.return_, 1) := by decide +kernel
abbrev po_c_J7_fill_53178 (g : GG) (h1 : Nat) (n : Nat) (f : Nat → Int32) (v : Int32) : Option Value → va_W → Prop := fun v8 w8 => ∃ f2 : Nat → Int32, v8 = none ∧ w8 = [(h1, aI g n f2)]
set_option maxHeartbeats 4000000 in
set_option maxRecDepth 100000 in
/-- Arrays.fill of ints -/
theorem c_J7_fill_53178 (l : Launch) (g : GG) (h1 : Nat) (n : Nat) (f : Nat → Int32) (v : Int32) (hp0 : n < 100000000) : Ct l g yJ7_fill_53178 (wM yJ7_fill_53178 cJ7_fill_53178 4 none) (rmD 0 0 0) [.ref h1, .int v] [(h1, aI g n f)] (po_c_J7_fill_53178 g h1 n f v) := by
  refine Ct_of (by decide +kernel) (Nat.le_of_ble_eq_true rfl) ?_
  intro p9 e9 s9 m9 ag9 bl9 mt9 c9 A9 fx hr hnm
  refine v_iconst fx dJ7_fill_53178_0 rfl ?_
  refine v_istore_n fx [(2, .int (iI 0)), (0, .ref h1), (1, .int v)] dJ7_fill_53178_1 (by decide) rfl rfl ?_
  refine v_aload_n fx 1 dJ7_fill_53178_2 rfl rfl ?_
  refine v_alen fx 0 0 (n : Int) dJ7_fill_53178_3 rfl rfl rfl rfl ?_
  refine v_istore_n fx [(3, .int (iI (n : Int))), (2, .int (iI 0)), (0, .ref h1), (1, .int v)] dJ7_fill_53178_4 (by decide) rfl rfl ?_
  have L5 : ∀ (N : Nat) (i : Int) (f1 : Nat → Int32), (0 ≤ i ∧ i ≤ (n : Int)) → (((n : Int) - i).toNat) < N → V p9 l e9 (rmD 0 0 0) s9 m9 ag9 bl9 mt9 c9 4 g A9 (MQ bl9 (cQ g (po_c_J7_fill_53178 g h1 n f v) A9) ag9 s9 0 0 A9) [(h1, aI g n f1)] 0 0 [(0, .ref h1), (1, .int v), (2, .int (iI i)), (3, .int (iI (n : Int)))] 5 [] := by
    intro N
    induction N with
    | zero => intro i f1 hi5_0 hN; exact absurd hN (Nat.not_lt_zero _)
    | succ N ihL5 =>
      intro i f1 hi5_0 hN5
      refine v_iload_n fx 2 dJ7_fill_53178_5 rfl rfl ?_
      refine v_iload_n fx 3 dJ7_fill_53178_6 rfl rfl ?_
      refine v_icmp_ge fx 20 dJ7_fill_53178_7 (by decide) rfl (by omega) (by omega) (fun h_1 => ?_) (fun h_1 => ?_)
      ·
        exact v_vret fx [(h1, aI g n f1)] [0] hr dJ7_fill_53178_20 rfl rfl (nl rfl) (nl rfl) ⟨f1, rfl, rfl⟩
      ·
        refine v_aload_n fx 0 dJ7_fill_53178_10 rfl rfl ?_
        refine v_iload_n fx 2 dJ7_fill_53178_11 rfl rfl ?_
        refine v_iload_n fx 1 dJ7_fill_53178_12 rfl rfl ?_
        obtain ⟨f_2, ef_2⟩ : ∃ f9 : Nat → Int32, upd f1 (i).toNat v = f9 := ⟨_, rfl⟩
        refine v_iast fx 0 f_2 [(h1, aI g n f_2)] dJ7_fill_53178_13 rfl (by omega) (by omega) ef_2 rfl rfl ?_
        refine v_iinc fx 2 (i + 1) [(2, .int (iI (i + 1))), (0, .ref h1), (1, .int v), (3, .int (iI (n : Int)))] dJ7_fill_53178_14 rfl (by omega) (by decide) rfl rfl ?_
        refine v_goto fx 5 dJ7_fill_53178_17 (by decide) ?_
        refine v_lv [1, 2, 0, 3] [(0, .ref h1), (1, .int v), (2, .int (iI (i + 1))), (3, .int (iI (n : Int)))] rfl ?_
        exact ihL5 (i + 1) f_2 (by omega) (by omega)
  refine v_lv [2, 3, 1, 0] [(0, .ref h1), (1, .int v), (2, .int (iI 0)), (3, .int (iI (n : Int)))] rfl ?_
  exact L5 _ 0 f (by omega) (Nat.lt_succ_self _)
theorem dJ7_rangeCheck_23922_0 : decode cJ7_rangeCheck_23922 0 = .ok (.iload_n 1, 1) := by decide +kernel
theorem dJ7_rangeCheck_23922_1 : decode cJ7_rangeCheck_23922 1 = .ok (.iload_n 2, 1) := by decide +kernel
theorem dJ7_rangeCheck_23922_2 : decode cJ7_rangeCheck_23922 2 = .ok (.if_icmp .le 44, 3) := by decide +kernel
theorem dJ7_rangeCheck_23922_46 : decode cJ7_rangeCheck_23922 46 = .ok (.iload_n 1, 1) := by decide +kernel
theorem dJ7_rangeCheck_23922_47 : decode cJ7_rangeCheck_23922 47 = .ok (.ifCond .ge 12, 3) := by decide +kernel
theorem dJ7_rangeCheck_23922_59 : decode cJ7_rangeCheck_23922 59 = .ok (.iload_n 2, 1) := by decide +kernel
theorem dJ7_rangeCheck_23922_60 : decode cJ7_rangeCheck_23922 60 = .ok (.iload_n 0, 1) := by decide +kernel
theorem dJ7_rangeCheck_23922_61 : decode cJ7_rangeCheck_23922 61 = .ok (.if_icmp .le 12, 3) := by decide +kernel
theorem dJ7_rangeCheck_23922_73 : decode cJ7_rangeCheck_23922 73 = .ok (.return_, 1) := by decide +kernel
abbrev po_c_J7_rangeCheck_23922 (g : GG) (n : Int) (x : Int) (y : Int) : Option Value → va_W → Prop := fun v8 w8 => v8 = none ∧ w8 = []
set_option maxHeartbeats 4000000 in
set_option maxRecDepth 100000 in
theorem c_J7_rangeCheck_23922 (l : Launch) (g : GG) (n : Int) (x : Int) (y : Int) (hp0 : 0 ≤ x ∧ x ≤ y ∧ y ≤ n ∧ n < 100000000) : Ct l g yJ7_rangeCheck_23922 (wM yJ7_rangeCheck_23922 cJ7_rangeCheck_23922 3 none) (rmD 0 0 0) [.int (iI n), .int (iI x), .int (iI y)] [] (po_c_J7_rangeCheck_23922 g n x y) := by
  refine Ct_of (by decide +kernel) (Nat.le_of_ble_eq_true rfl) ?_
  intro p9 e9 s9 m9 ag9 bl9 mt9 c9 A9 fx hr hnm
  refine v_iload_n fx 1 dJ7_rangeCheck_23922_0 rfl rfl ?_
  refine v_iload_n fx 2 dJ7_rangeCheck_23922_1 rfl rfl ?_
  refine v_icmp_le fx 46 dJ7_rangeCheck_23922_2 (by decide) rfl (by omega) (by omega) (fun h_1 => ?_) (fun h0 => absurd h0 (by omega))
  refine v_iload_n fx 1 dJ7_rangeCheck_23922_46 rfl rfl ?_
  refine v_if_ge fx 59 dJ7_rangeCheck_23922_47 (by decide) rfl (by omega) (fun h_2 => ?_) (fun h0 => absurd h0 (by omega))
  refine v_iload_n fx 2 dJ7_rangeCheck_23922_59 rfl rfl ?_
  refine v_iload_n fx 0 dJ7_rangeCheck_23922_60 rfl rfl ?_
  refine v_icmp_le fx 73 dJ7_rangeCheck_23922_61 (by decide) rfl (by omega) (by omega) (fun h_3 => ?_) (fun h0 => absurd h0 (by omega))
  exact v_vret fx [] [] hr dJ7_rangeCheck_23922_73 rfl rfl (nl rfl) (nl rfl) ⟨rfl, rfl⟩
theorem dJ7_fill_eb02e_0 : decode cJ7_fill_eb02e 0 = .ok (.aload_n 0, 1) := by decide +kernel
theorem dJ7_fill_eb02e_1 : decode cJ7_fill_eb02e 1 = .ok (.arraylength, 1) := by decide +kernel
theorem dJ7_fill_eb02e_2 : decode cJ7_fill_eb02e 2 = .ok (.iload_n 1, 1) := by decide +kernel
theorem dJ7_fill_eb02e_3 : decode cJ7_fill_eb02e 3 = .ok (.iload_n 2, 1) := by decide +kernel
theorem dJ7_fill_eb02e_4 : decode cJ7_fill_eb02e 4 = .ok (.invokestatic 13, 3) := by decide +kernel
theorem dJ7_fill_eb02e_7 : decode cJ7_fill_eb02e 7 = .ok (.iload_n 1, 1) := by decide +kernel
theorem dJ7_fill_eb02e_8 : decode cJ7_fill_eb02e 8 = .ok (.istore 4, 2) := by decide +kernel
theorem dJ7_fill_eb02e_10 : decode cJ7_fill_eb02e 10 = .ok (.iload 4, 2) := by decide +kernel
theorem dJ7_fill_eb02e_12 : decode cJ7_fill_eb02e 12 = .ok (.iload_n 2, 1) := by decide +kernel
theorem dJ7_fill_eb02e_13 : decode cJ7_fill_eb02e 13 = .ok (.if_icmp .ge 14, 3) := by decide +kernel
theorem dJ7_fill_eb02e_16 : decode cJ7_fill_eb02e 16 = .ok (.aload_n 0, 1) := by decide +kernel
theorem dJ7_fill_eb02e_17 : decode cJ7_fill_eb02e 17 = .ok (.iload 4, 2) := by decide +kernel
theorem dJ7_fill_eb02e_19 : decode cJ7_fill_eb02e 19 = .ok (.iload_n 3, 1) := by decide +kernel
theorem dJ7_fill_eb02e_20 : decode cJ7_fill_eb02e 20 = .ok (.bastore, 1) := by decide +kernel
theorem dJ7_fill_eb02e_21 : decode cJ7_fill_eb02e 21 = .ok (.iinc 4 1, 3) := by decide +kernel
theorem dJ7_fill_eb02e_24 : decode cJ7_fill_eb02e 24 = .ok (.goto (-14), 3) := by decide +kernel
theorem dJ7_fill_eb02e_27 : decode cJ7_fill_eb02e 27 = .ok (.return_, 1) := by decide +kernel
abbrev po_c_J7_fill_eb02e (g : GG) (h1 : Nat) (n : Nat) (f : Nat → Int32) (x : Int) (y : Int) (v : Int32) : Option Value → va_W → Prop := fun v8 w8 => ∃ f2 : Nat → Int32, v8 = none ∧ w8 = [(h1, aB g n f2)]
set_option maxHeartbeats 4000000 in
set_option maxRecDepth 100000 in
/-- Arrays.fill of bytes -/
theorem c_J7_fill_eb02e (l : Launch) (g : GG) (h1 : Nat) (n : Nat) (f : Nat → Int32) (x : Int) (y : Int) (v : Int32) (hp0 : 0 ≤ x ∧ x ≤ y ∧ y ≤ (n : Int)) (hp1 : n < 100000000) : Ct l g yJ7_fill_eb02e (wM yJ7_fill_eb02e cJ7_fill_eb02e 5 none) (rmD 1 0 0) [.ref h1, .int (iI x), .int (iI y), .int v] [(h1, aB g n f)] (po_c_J7_fill_eb02e g h1 n f x y v) := by
  refine Ct_of (by decide +kernel) (Nat.le_of_ble_eq_true rfl) ?_
  intro p9 e9 s9 m9 ag9 bl9 mt9 c9 A9 fx hr hnm
  refine v_aload_n fx 0 dJ7_fill_eb02e_0 rfl rfl ?_
  refine v_alen fx 0 1 (n : Int) dJ7_fill_eb02e_1 rfl rfl rfl rfl ?_
  refine v_iload_n fx 1 dJ7_fill_eb02e_2 rfl rfl ?_
  refine v_iload_n fx 2 dJ7_fill_eb02e_3 rfl rfl ?_
  refine v_callS (As := [.int (iI (n : Int)), .int (iI x), .int (iI y)]) (rest := []) fx [] [0] [] [(h1, aB g n f)] 3 (c_J7_rangeCheck_23922 l g (n : Int) x y (by first | omega | decide | assumption)) dJ7_fill_eb02e_4 k369 k370 k55 k371 ykJ7_rangeCheck_23922 rfl rfl rfl rfl rfl (nl rfl) ⟨nl rfl, nl rfl⟩ ⟨(nl rfl), (nl rfl)⟩ rfl (fun v9 w9 hu => ?_)
  obtain ⟨rfl, rfl⟩ := hu
  refine v_is (wn := [(h1, aB g n f)]) (cn := 0) (sn := 0) (sn2 := []) rfl rfl rfl rfl ?_
  refine v_iload_n fx 1 dJ7_fill_eb02e_7 rfl rfl ?_
  refine v_istore fx [(4, .int (iI x)), (0, .ref h1), (1, .int (iI x)), (2, .int (iI y)), (3, .int v)] dJ7_fill_eb02e_8 (by decide) rfl rfl ?_
  have L10 : ∀ (N : Nat) (i : Int) (f1 : Nat → Int32), (x ≤ i ∧ i ≤ y) → ((y - i).toNat) < N → V p9 l e9 (rmD 1 0 0) s9 m9 ag9 bl9 mt9 c9 5 g A9 (MQ bl9 (cQ g (po_c_J7_fill_eb02e g h1 n f x y v) A9) ag9 s9 0 0 A9) [(h1, aB g n f1)] 0 0 [(0, .ref h1), (1, .int (iI x)), (2, .int (iI y)), (3, .int v), (4, .int (iI i))] 10 [] := by
    intro N
    induction N with
    | zero => intro i f1 hi10_0 hN; exact absurd hN (Nat.not_lt_zero _)
    | succ N ihL10 =>
      intro i f1 hi10_0 hN10
      refine v_iload fx 4 dJ7_fill_eb02e_10 rfl rfl ?_
      refine v_iload_n fx 2 dJ7_fill_eb02e_12 rfl rfl ?_
      refine v_icmp_ge fx 27 dJ7_fill_eb02e_13 (by decide) rfl (by omega) (by omega) (fun h_1 => ?_) (fun h_1 => ?_)
      ·
        exact v_vret fx [(h1, aB g n f1)] [0] hr dJ7_fill_eb02e_27 rfl rfl (nl rfl) (nl rfl) ⟨f1, rfl, rfl⟩
      ·
        refine v_aload_n fx 0 dJ7_fill_eb02e_16 rfl rfl ?_
        refine v_iload fx 4 dJ7_fill_eb02e_17 rfl rfl ?_
        refine v_iload_n fx 3 dJ7_fill_eb02e_19 rfl rfl ?_
        obtain ⟨f_2, ef_2⟩ : ∃ f9 : Nat → Int32, upd f1 (i).toNat (vp_nar .byte v) = f9 := ⟨_, rfl⟩
        refine v_bast fx 0 f_2 [(h1, aB g n f_2)] dJ7_fill_eb02e_20 rfl (by omega) (by omega) ef_2 rfl rfl ?_
        refine v_iinc fx 4 (i + 1) [(4, .int (iI (i + 1))), (0, .ref h1), (1, .int (iI x)), (2, .int (iI y)), (3, .int v)] dJ7_fill_eb02e_21 rfl (by omega) (by decide) rfl rfl ?_
        refine v_goto fx 10 dJ7_fill_eb02e_24 (by decide) ?_
        refine v_lv [1, 2, 3, 4, 0] [(0, .ref h1), (1, .int (iI x)), (2, .int (iI y)), (3, .int v), (4, .int (iI (i + 1)))] rfl ?_
        exact ihL10 (i + 1) f_2 (by omega) (by omega)
  refine v_lv [1, 2, 3, 4, 0] [(0, .ref h1), (1, .int (iI x)), (2, .int (iI y)), (3, .int v), (4, .int (iI x))] rfl ?_
  exact L10 _ x f (by omega) (Nat.lt_succ_self _)
theorem dX4_set_0 : decode cX4_set 0 = .ok (.iload_n 1, 1) := by decide +kernel
theorem dX4_set_1 : decode cX4_set 1 = .ok (.iconst 5, 1) := by decide +kernel
theorem dX4_set_2 : decode cX4_set 2 = .ok (.ishr, 1) := by decide +kernel
theorem dX4_set_3 : decode cX4_set 3 = .ok (.istore_n 3, 1) := by decide +kernel
theorem dX4_set_4 : decode cX4_set 4 = .ok (.iload_n 3, 1) := by decide +kernel
theorem dX4_set_5 : decode cX4_set 5 = .ok (.ifCond .lt 12, 3) := by decide +kernel
theorem dX4_set_8 : decode cX4_set 8 = .ok (.iload_n 3, 1) := by decide +kernel
theorem dX4_set_9 : decode cX4_set 9 = .ok (.aload_n 0, 1) := by decide +kernel
theorem dX4_set_10 : decode cX4_set 10 = .ok (.getfield 13, 3) := by decide +kernel
theorem dX4_set_13 : decode cX4_set 13 = .ok (.arraylength, 1) := by decide +kernel
theorem dX4_set_14 : decode cX4_set 14 = .ok (.if_icmp .lt 4, 3) := by decide +kernel
theorem dX4_set_17 : decode cX4_set 17 = .ok (.return_, 1) := by decide +kernel
theorem dX4_set_18 : decode cX4_set 18 = .ok (.iconst 1, 1) := by decide +kernel
theorem dX4_set_19 : decode cX4_set 19 = .ok (.iload_n 1, 1) := by decide +kernel
theorem dX4_set_20 : decode cX4_set 20 = .ok (.bipush 31, 2) := by decide +kernel
theorem dX4_set_22 : decode cX4_set 22 = .ok (.iand, 1) := by decide +kernel
theorem dX4_set_23 : decode cX4_set 23 = .ok (.ishl, 1) := by decide +kernel
theorem dX4_set_24 : decode cX4_set 24 = .ok (.istore 4, 2) := by decide +kernel
theorem dX4_set_26 : decode cX4_set 26 = .ok (.aload_n 0, 1) := by decide +kernel
theorem dX4_set_27 : decode cX4_set 27 = .ok (.getfield 13, 3) := by decide +kernel
theorem dX4_set_30 : decode cX4_set 30 = .ok (.iload_n 3, 1) := by decide +kernel
theorem dX4_set_31 : decode cX4_set 31 = .ok (.iload_n 2, 1) := by decide +kernel
theorem dX4_set_32 : decode cX4_set 32 = .ok (.ifCond .eq 15, 3) := by decide +kernel
theorem dX4_set_35 : decode cX4_set 35 = .ok (.aload_n 0, 1) := by decide +kernel
theorem dX4_set_36 : decode cX4_set 36 = .ok (.getfield 13, 3) := by decide +kernel
theorem dX4_set_39 : decode cX4_set 39 = .ok (.iload_n 3, 1) := by decide +kernel
theorem dX4_set_40 : decode cX4_set 40 = .ok (.iaload, 1) := by decide +kernel
theorem dX4_set_41 : decode cX4_set 41 = .ok (.iload 4, 2) := by decide +kernel
theorem dX4_set_43 : decode cX4_set 43 = .ok (.ior, 1) := by decide +kernel
theorem dX4_set_44 : decode cX4_set 44 = .ok (.goto 14, 3) := by decide +kernel
theorem dX4_set_47 : decode cX4_set 47 = .ok (.aload_n 0, 1) := by decide +kernel
theorem dX4_set_48 : decode cX4_set 48 = .ok (.getfield 13, 3) := by decide +kernel
theorem dX4_set_51 : decode cX4_set 51 = .ok (.iload_n 3, 1) := by decide +kernel
theorem dX4_set_52 : decode cX4_set 52 = .ok (.iaload, 1) := by decide +kernel
theorem dX4_set_53 : decode cX4_set 53 = .ok (.iload 4, 2) := by decide +kernel
theorem dX4_set_55 : decode cX4_set 55 = .ok (.iconst (-1), 1) := by decide +kernel
theorem dX4_set_56 : decode cX4_set 56 = .ok (.ixor, 1) := by decide +kernel
theorem dX4_set_57 : decode cX4_set 57 = .ok (.iand, 1) := by decide +kernel
theorem dX4_set_58 : decode cX4_set 58 = .ok (.iastore, 1) := by decide +kernel
theorem dX4_set_59 : decode cX4_set 59 = .ok (.return_, 1) := by decide +kernel
abbrev po_c_X4_set (g : GG) (h0 : Nat) (h1 : Nat) (n : Nat) (f : Nat → Int32) (sw : Int32) (x : Int) (on : Int) : Option Value → va_W → Prop := fun v8 w8 => ∃ f2 : Nat → Int32, v8 = none ∧ w8 = [(h0, ob 4 [.int sw, .ref h1]), (h1, aI g n f2)]
set_option maxHeartbeats 4000000 in
set_option maxRecDepth 100000 in
/-- Samples.set -/
theorem c_X4_set (l : Launch) (g : GG) (h0 : Nat) (h1 : Nat) (n : Nat) (f : Nat → Int32) (sw : Int32) (x : Int) (on : Int) (hp0 : 0 ≤ x ∧ x < 3000) (hp1 : 0 ≤ on ∧ on ≤ 1) (hp2 : n < 1000000) : Ct l g yX4_set (wM yX4_set cX4_set 5 none) (rmD 0 0 0) [.ref h0, .int (iI x), .int (iI on)] [(h0, ob 4 [.int sw, .ref h1]), (h1, aI g n f)] (po_c_X4_set g h0 h1 n f sw x on) := by
  refine Ct_of (by decide +kernel) (Nat.le_of_ble_eq_true rfl) ?_
  intro p9 e9 s9 m9 ag9 bl9 mt9 c9 A9 fx hr hnm
  refine v_iload_n fx 1 dX4_set_0 rfl rfl ?_
  refine v_iconst fx dX4_set_1 rfl ?_
  refine v_ishr fx (iI (x / 32)) dX4_set_2 (iI_shr (k := 5) (by omega) _ (by decide)) rfl ?_
  refine v_istore_n fx [(3, .int (iI (x / 32))), (0, .ref h0), (1, .int (iI x)), (2, .int (iI on))] dX4_set_3 (by decide) rfl rfl ?_
  refine v_iload_n fx 0 dX4_set_4 rfl rfl ?_
  refine v_if_lt fx 17 dX4_set_5 (by decide) rfl (by omega) (fun h_1 => ?_) (fun h_1 => ?_)
  ·
    exact v_vret fx [(h0, ob 4 [.int sw, .ref h1]), (h1, aI g n f)] [0, 1] hr dX4_set_17 rfl rfl (nl rfl) (nl rfl) ⟨f, rfl, rfl⟩
  ·
    refine v_iload_n fx 0 dX4_set_8 rfl rfl ?_
    refine v_aload_n fx 1 dX4_set_9 rfl rfl ?_
    refine v_get fx 0 1 inX4 k92 dX4_set_10 rfl rfl (by decide) rfl rfl rfl ?_
    refine v_alen fx 1 0 (n : Int) dX4_set_13 rfl rfl rfl rfl ?_
    refine v_icmp_lt fx 18 dX4_set_14 (by decide) rfl (by omega) (by omega) (fun h_2 => ?_) (fun h_2 => ?_)
    ·
      refine v_iconst fx dX4_set_18 rfl ?_
      refine v_iload_n fx 2 dX4_set_19 rfl rfl ?_
      refine v_bipush fx dX4_set_20 (by decide +kernel) rfl ?_
      refine v_iand fx (iI (x % 32)) dX4_set_22 (iI_and (by omega) 5 (by decide +kernel)) rfl ?_
      obtain ⟨t_3, et_3⟩ : ∃ x9 : Int32, (iI 1) <<< ((iI (x % 32)) &&& 31) = x9 := ⟨_, rfl⟩
      refine v_ishl fx t_3 dX4_set_23 et_3 rfl ?_
      refine v_istore fx [(4, .int t_3), (3, .int (iI (x / 32))), (0, .ref h0), (1, .int (iI x)), (2, .int (iI on))] dX4_set_24 (by decide) rfl rfl ?_
      refine v_aload_n fx 2 dX4_set_26 rfl rfl ?_
      refine v_get fx 0 1 inX4 k92 dX4_set_27 rfl rfl (by decide) rfl rfl rfl ?_
      refine v_iload_n fx 1 dX4_set_30 rfl rfl ?_
      refine v_iload_n fx 4 dX4_set_31 rfl rfl ?_
      refine v_if_eq fx 47 dX4_set_32 (by decide) rfl (by omega) (fun h_4 => ?_) (fun h_4 => ?_)
      ·
        refine v_aload_n fx 2 dX4_set_47 rfl rfl ?_
        refine v_get fx 0 1 inX4 k92 dX4_set_48 rfl rfl (by decide) rfl rfl rfl ?_
        refine v_iload_n fx 1 dX4_set_51 rfl rfl ?_
        refine v_iald fx 1 dX4_set_52 rfl (by omega) (by omega) rfl ?_
        refine v_iload fx 0 dX4_set_53 rfl rfl ?_
        refine v_iconst fx dX4_set_55 rfl ?_
        obtain ⟨t_5, et_5⟩ : ∃ x9 : Int32, t_3 ^^^ (iI (-1)) = x9 := ⟨_, rfl⟩
        refine v_ixor fx t_5 dX4_set_56 et_5 rfl ?_
        obtain ⟨t_6, et_6⟩ : ∃ x9 : Int32, (f (x / 32).toNat) &&& t_5 = x9 := ⟨_, rfl⟩
        refine v_iand fx t_6 dX4_set_57 et_6 rfl ?_
        obtain ⟨f_7, ef_7⟩ : ∃ f9 : Nat → Int32, upd f (x / 32).toNat t_6 = f9 := ⟨_, rfl⟩
        refine v_iast fx 1 f_7 [(h0, ob 4 [.int sw, .ref h1]), (h1, aI g n f_7)] dX4_set_58 rfl (by omega) (by omega) ef_7 rfl rfl ?_
        exact v_vret fx [(h0, ob 4 [.int sw, .ref h1]), (h1, aI g n f_7)] [0, 1] hr dX4_set_59 rfl rfl (nl rfl) (nl rfl) ⟨f_7, rfl, rfl⟩
      ·
        refine v_aload_n fx 2 dX4_set_35 rfl rfl ?_
        refine v_get fx 0 1 inX4 k92 dX4_set_36 rfl rfl (by decide) rfl rfl rfl ?_
        refine v_iload_n fx 1 dX4_set_39 rfl rfl ?_
        refine v_iald fx 1 dX4_set_40 rfl (by omega) (by omega) rfl ?_
        refine v_iload fx 0 dX4_set_41 rfl rfl ?_
        obtain ⟨t_8, et_8⟩ : ∃ x9 : Int32, (f (x / 32).toNat) ||| t_3 = x9 := ⟨_, rfl⟩
        refine v_ior fx t_8 dX4_set_43 et_8 rfl ?_
        refine v_goto fx 58 dX4_set_44 (by decide) ?_
        obtain ⟨f_9, ef_9⟩ : ∃ f9 : Nat → Int32, upd f (x / 32).toNat t_8 = f9 := ⟨_, rfl⟩
        refine v_iast fx 1 f_9 [(h0, ob 4 [.int sw, .ref h1]), (h1, aI g n f_9)] dX4_set_58 rfl (by omega) (by omega) ef_9 rfl rfl ?_
        exact v_vret fx [(h0, ob 4 [.int sw, .ref h1]), (h1, aI g n f_9)] [0, 1] hr dX4_set_59 rfl rfl (nl rfl) (nl rfl) ⟨f_9, rfl, rfl⟩
    ·
      exact v_vret fx [(h0, ob 4 [.int sw, .ref h1]), (h1, aI g n f)] [0, 1] hr dX4_set_17 rfl rfl (nl rfl) (nl rfl) ⟨f, rfl, rfl⟩
theorem dX4_whiten_0 : decode cX4_whiten 0 = .ok (.aload_n 0, 1) := by decide +kernel
theorem dX4_whiten_1 : decode cX4_whiten 1 = .ok (.getfield 13, 3) := by decide +kernel
theorem dX4_whiten_4 : decode cX4_whiten 4 = .ok (.iconst 0, 1) := by decide +kernel
theorem dX4_whiten_5 : decode cX4_whiten 5 = .ok (.invokestatic 17, 3) := by decide +kernel
theorem dX4_whiten_8 : decode cX4_whiten 8 = .ok (.return_, 1) := by decide +kernel
abbrev po_c_X4_whiten (g : GG) (h0 : Nat) (h1 : Nat) (n : Nat) (f : Nat → Int32) (sw : Int32) : Option Value → va_W → Prop := fun v8 w8 => ∃ f2 : Nat → Int32, v8 = none ∧ w8 = [(h0, ob 4 [.int sw, .ref h1]), (h1, aI g n f2)]
set_option maxHeartbeats 4000000 in
set_option maxRecDepth 100000 in
/-- Samples.whiten -/
theorem c_X4_whiten (l : Launch) (g : GG) (h0 : Nat) (h1 : Nat) (n : Nat) (f : Nat → Int32) (sw : Int32) (hp0 : n < 1000000) : Ct l g yX4_whiten (wM yX4_whiten cX4_whiten 1 none) (rmD 1 0 0) [.ref h0] [(h0, ob 4 [.int sw, .ref h1]), (h1, aI g n f)] (po_c_X4_whiten g h0 h1 n f sw) := by
  refine Ct_of (by decide +kernel) (Nat.le_of_ble_eq_true rfl) ?_
  intro p9 e9 s9 m9 ag9 bl9 mt9 c9 A9 fx hr hnm
  refine v_aload_n fx 0 dX4_whiten_0 rfl rfl ?_
  refine v_get fx 0 1 inX4 k92 dX4_whiten_1 rfl rfl (by decide) rfl rfl rfl ?_
  refine v_iconst fx dX4_whiten_4 rfl ?_
  refine v_callS (As := [.ref h1, .int (iI 0)]) (rest := []) fx [1] [0] [(h1, aI g n f)] [(h0, ob 4 [.int sw, .ref h1])] 2 (c_J7_fill_53178 l g h1 n f (iI 0) (by first | omega | decide | assumption)) dX4_whiten_5 k351 k352 k55 k353 ykJ7_fill_53178 rfl rfl rfl rfl rfl (nl rfl) ⟨nl rfl, nl rfl⟩ ⟨(nl rfl), (nl rfl)⟩ rfl (fun v9 w9 hu => ?_)
  obtain ⟨f2_1, rfl, rfl⟩ := hu
  refine v_is (wn := [(h0, ob 4 [.int sw, .ref h1]), (h1, aI g n f2_1)]) (cn := 0) (sn := 0) (sn2 := []) rfl rfl rfl rfl ?_
  exact v_vret fx [(h0, ob 4 [.int sw, .ref h1]), (h1, aI g n f2_1)] [0, 1] hr dX4_whiten_8 rfl rfl (nl rfl) (nl rfl) ⟨f2_1, rfl, rfl⟩
theorem dX4_addChangesTo_0 : decode cX4_addChangesTo 0 = .ok (.iconst 0, 1) := by decide +kernel
theorem dX4_addChangesTo_1 : decode cX4_addChangesTo 1 = .ok (.istore_n 2, 1) := by decide +kernel
theorem dX4_addChangesTo_2 : decode cX4_addChangesTo 2 = .ok (.iconst 0, 1) := by decide +kernel
theorem dX4_addChangesTo_3 : decode cX4_addChangesTo 3 = .ok (.istore_n 3, 1) := by decide +kernel
theorem dX4_addChangesTo_4 : decode cX4_addChangesTo 4 = .ok (.iload_n 3, 1) := by decide +kernel
theorem dX4_addChangesTo_5 : decode cX4_addChangesTo 5 = .ok (.aload_n 0, 1) := by decide +kernel
theorem dX4_addChangesTo_6 : decode cX4_addChangesTo 6 = .ok (.getfield 13, 3) := by decide +kernel
theorem dX4_addChangesTo_9 : decode cX4_addChangesTo 9 = .ok (.arraylength, 1) := by decide +kernel
theorem dX4_addChangesTo_10 : decode cX4_addChangesTo 10 = .ok (.if_icmp .ge 53, 3) := by decide +kernel
theorem dX4_addChangesTo_13 : decode cX4_addChangesTo 13 = .ok (.aload_n 0, 1) := by decide +kernel
theorem dX4_addChangesTo_14 : decode cX4_addChangesTo 14 = .ok (.getfield 13, 3) := by decide +kernel
theorem dX4_addChangesTo_17 : decode cX4_addChangesTo 17 = .ok (.iload_n 3, 1) := by decide +kernel
theorem dX4_addChangesTo_18 : decode cX4_addChangesTo 18 = .ok (.iaload, 1) := by decide +kernel
theorem dX4_addChangesTo_19 : decode cX4_addChangesTo 19 = .ok (.aload_n 0, 1) := by decide +kernel
theorem dX4_addChangesTo_20 : decode cX4_addChangesTo 20 = .ok (.getfield 13, 3) := by decide +kernel
theorem dX4_addChangesTo_23 : decode cX4_addChangesTo 23 = .ok (.iload_n 3, 1) := by decide +kernel
theorem dX4_addChangesTo_24 : decode cX4_addChangesTo 24 = .ok (.iaload, 1) := by decide +kernel
theorem dX4_addChangesTo_25 : decode cX4_addChangesTo 25 = .ok (.iconst 1, 1) := by decide +kernel
theorem dX4_addChangesTo_26 : decode cX4_addChangesTo 26 = .ok (.ishl, 1) := by decide +kernel
theorem dX4_addChangesTo_27 : decode cX4_addChangesTo 27 = .ok (.iload_n 2, 1) := by decide +kernel
theorem dX4_addChangesTo_28 : decode cX4_addChangesTo 28 = .ok (.ior, 1) := by decide +kernel
theorem dX4_addChangesTo_29 : decode cX4_addChangesTo 29 = .ok (.ixor, 1) := by decide +kernel
theorem dX4_addChangesTo_30 : decode cX4_addChangesTo 30 = .ok (.istore 4, 2) := by decide +kernel
theorem dX4_addChangesTo_32 : decode cX4_addChangesTo 32 = .ok (.iload 4, 2) := by decide +kernel
theorem dX4_addChangesTo_34 : decode cX4_addChangesTo 34 = .ok (.ifCond .eq 13, 3) := by decide +kernel
theorem dX4_addChangesTo_47 : decode cX4_addChangesTo 47 = .ok (.aload_n 0, 1) := by decide +kernel
theorem dX4_addChangesTo_48 : decode cX4_addChangesTo 48 = .ok (.getfield 13, 3) := by decide +kernel
theorem dX4_addChangesTo_51 : decode cX4_addChangesTo 51 = .ok (.iload_n 3, 1) := by decide +kernel
theorem dX4_addChangesTo_52 : decode cX4_addChangesTo 52 = .ok (.iaload, 1) := by decide +kernel
theorem dX4_addChangesTo_53 : decode cX4_addChangesTo 53 = .ok (.bipush 31, 2) := by decide +kernel
theorem dX4_addChangesTo_55 : decode cX4_addChangesTo 55 = .ok (.iushr, 1) := by decide +kernel
theorem dX4_addChangesTo_56 : decode cX4_addChangesTo 56 = .ok (.istore_n 2, 1) := by decide +kernel
theorem dX4_addChangesTo_57 : decode cX4_addChangesTo 57 = .ok (.iinc 3 1, 3) := by decide +kernel
theorem dX4_addChangesTo_60 : decode cX4_addChangesTo 60 = .ok (.goto (-56), 3) := by decide +kernel
theorem dX4_addChangesTo_63 : decode cX4_addChangesTo 63 = .ok (.return_, 1) := by decide +kernel
abbrev po_c_X4_addChangesTo_white (g : GG) (h0 : Nat) (h1 : Nat) (n : Nat) (ls : Nat) (sw : Int32) : Option Value → va_W → Prop := fun v8 w8 => v8 = none ∧ w8 = [(h0, ob 4 [.int sw, .ref h1]), (h1, aI g n (fun _ => 0))]
set_option maxHeartbeats 4000000 in
set_option maxRecDepth 100000 in
/-- of a white row no change comes -/
theorem c_X4_addChangesTo_white (l : Launch) (g : GG) (h0 : Nat) (h1 : Nat) (n : Nat) (ls : Nat) (sw : Int32) (hp0 : n < 1000000) : Ct l g yX4_addChangesTo (wM yX4_addChangesTo cX4_addChangesTo 5 none) (rmD 0 0 0) [.ref h0, .ref ls] [(h0, ob 4 [.int sw, .ref h1]), (h1, aI g n (fun _ => 0))] (po_c_X4_addChangesTo_white g h0 h1 n ls sw) := by
  refine Ct_of (by decide +kernel) (Nat.le_of_ble_eq_true rfl) ?_
  intro p9 e9 s9 m9 ag9 bl9 mt9 c9 A9 fx hr hnm
  refine v_iconst fx dX4_addChangesTo_0 rfl ?_
  refine v_istore_n fx [(2, .int (iI 0)), (0, .ref h0), (1, .ref ls)] dX4_addChangesTo_1 (by decide) rfl rfl ?_
  refine v_iconst fx dX4_addChangesTo_2 rfl ?_
  refine v_istore_n fx [(3, .int (iI 0)), (2, .int (iI 0)), (0, .ref h0), (1, .ref ls)] dX4_addChangesTo_3 (by decide) rfl rfl ?_
  have L4 : ∀ (N : Nat) (i : Int), (0 ≤ i ∧ i ≤ (n : Int)) → (((n : Int) - i).toNat) < N → V p9 l e9 (rmD 0 0 0) s9 m9 ag9 bl9 mt9 c9 5 g A9 (MQ bl9 (cQ g (po_c_X4_addChangesTo_white g h0 h1 n ls sw) A9) ag9 s9 0 0 A9) [(h0, ob 4 [.int sw, .ref h1]), (h1, aI g n (fun _ => 0))] 0 0 [(0, .ref h0), (1, .ref ls), (2, .int (iI 0)), (3, .int (iI i))] 4 [] := by
    intro N
    induction N with
    | zero => intro i hi4_0 hN; exact absurd hN (Nat.not_lt_zero _)
    | succ N ihL4 =>
      intro i hi4_0 hN4
      refine v_iload_n fx 3 dX4_addChangesTo_4 rfl rfl ?_
      refine v_aload_n fx 0 dX4_addChangesTo_5 rfl rfl ?_
      refine v_get fx 0 1 inX4 k92 dX4_addChangesTo_6 rfl rfl (by decide) rfl rfl rfl ?_
      refine v_alen fx 1 0 (n : Int) dX4_addChangesTo_9 rfl rfl rfl rfl ?_
      refine v_icmp_ge fx 63 dX4_addChangesTo_10 (by decide) rfl (by omega) (by omega) (fun h_1 => ?_) (fun h_1 => ?_)
      ·
        exact v_vret fx [(h0, ob 4 [.int sw, .ref h1]), (h1, aI g n (fun _ => 0))] [0, 1] hr dX4_addChangesTo_63 rfl rfl (nl rfl) (nl rfl) ⟨rfl, rfl⟩
      ·
        refine v_aload_n fx 0 dX4_addChangesTo_13 rfl rfl ?_
        refine v_get fx 0 1 inX4 k92 dX4_addChangesTo_14 rfl rfl (by decide) rfl rfl rfl ?_
        refine v_iload_n fx 3 dX4_addChangesTo_17 rfl rfl ?_
        refine v_iald fx 1 dX4_addChangesTo_18 rfl (by omega) (by omega) rfl ?_
        refine v_top (iI 0) (rfl) ?_
        refine v_aload_n fx 0 dX4_addChangesTo_19 rfl rfl ?_
        refine v_get fx 0 1 inX4 k92 dX4_addChangesTo_20 rfl rfl (by decide) rfl rfl rfl ?_
        refine v_iload_n fx 3 dX4_addChangesTo_23 rfl rfl ?_
        refine v_iald fx 1 dX4_addChangesTo_24 rfl (by omega) (by omega) rfl ?_
        refine v_top (iI 0) (rfl) ?_
        refine v_iconst fx dX4_addChangesTo_25 rfl ?_
        refine v_ishl fx (iI 0) dX4_addChangesTo_26 (by decide +kernel) rfl ?_
        refine v_iload_n fx 2 dX4_addChangesTo_27 rfl rfl ?_
        refine v_ior fx (iI 0) dX4_addChangesTo_28 (by decide +kernel) rfl ?_
        refine v_ixor fx (iI 0) dX4_addChangesTo_29 (by decide +kernel) rfl ?_
        refine v_istore fx [(4, .int (iI 0)), (0, .ref h0), (1, .ref ls), (2, .int (iI 0)), (3, .int (iI i))] dX4_addChangesTo_30 (by decide) rfl rfl ?_
        refine v_iload fx 0 dX4_addChangesTo_32 rfl rfl ?_
        refine v_if_eq fx 47 dX4_addChangesTo_34 (by decide) rfl (by omega) (fun h_2 => ?_) (fun h0 => absurd h0 (by omega))
        refine v_aload_n fx 1 dX4_addChangesTo_47 rfl rfl ?_
        refine v_get fx 0 1 inX4 k92 dX4_addChangesTo_48 rfl rfl (by decide) rfl rfl rfl ?_
        refine v_iload_n fx 4 dX4_addChangesTo_51 rfl rfl ?_
        refine v_iald fx 1 dX4_addChangesTo_52 rfl (by omega) (by omega) rfl ?_
        refine v_top (iI 0) (rfl) ?_
        refine v_bipush fx dX4_addChangesTo_53 (by decide +kernel) rfl ?_
        refine v_iushr fx (iI 0) dX4_addChangesTo_55 (by decide +kernel) rfl ?_
        refine v_istore_n fx [(2, .int (iI 0)), (4, .int (iI 0)), (0, .ref h0), (1, .ref ls), (3, .int (iI i))] dX4_addChangesTo_56 (by decide) rfl rfl ?_
        refine v_iinc fx 4 (i + 1) [(3, .int (iI (i + 1))), (2, .int (iI 0)), (4, .int (iI 0)), (0, .ref h0), (1, .ref ls)] dX4_addChangesTo_57 rfl (by omega) (by decide) rfl rfl ?_
        refine v_goto fx 4 dX4_addChangesTo_60 (by decide) ?_
        refine v_lv [3, 4, 1, 0] [(0, .ref h0), (1, .ref ls), (2, .int (iI 0)), (3, .int (iI (i + 1)))] rfl ?_
        exact ihL4 (i + 1) (by omega) (by omega)
  refine v_lv [2, 3, 1, 0] [(0, .ref h0), (1, .ref ls), (2, .int (iI 0)), (3, .int (iI 0))] rfl ?_
  exact L4 _ 0 (by omega) (Nat.lt_succ_self _)
theorem dX2_count_0 : decode cX2_count 0 = .ok (.aload_n 0, 1) := by decide +kernel
theorem dX2_count_1 : decode cX2_count 1 = .ok (.getfield 18, 3) := by decide +kernel
theorem dX2_count_4 : decode cX2_count 4 = .ok (.ireturn, 1) := by decide +kernel
abbrev po_c_X2_count (g : GG) (h0 : Nat) (h1 : Nat) (it : Nat) (c : Int) : Option Value → va_W → Prop := fun v8 w8 => v8 = some (.int (iI c)) ∧ w8 = [(h0, ob 2 [.ref h1, .ref it, .int (iI c)])]
set_option maxHeartbeats 4000000 in
set_option maxRecDepth 100000 in
theorem c_X2_count (l : Launch) (g : GG) (h0 : Nat) (h1 : Nat) (it : Nat) (c : Int) : Ct l g yX2_count (wM yX2_count cX2_count 1 (some .int)) (rmD 0 0 0) [.ref h0] [(h0, ob 2 [.ref h1, .ref it, .int (iI c)])] (po_c_X2_count g h0 h1 it c) := by
  refine Ct_of (by decide +kernel) (Nat.le_of_ble_eq_true rfl) ?_
  intro p9 e9 s9 m9 ag9 bl9 mt9 c9 A9 fx hr hnm
  refine v_aload_n fx 0 dX2_count_0 rfl rfl ?_
  refine v_get fx 0 2 inX2 k107 dX2_count_1 rfl rfl (by decide) rfl rfl rfl ?_
  exact v_iret fx [(h0, ob 2 [.ref h1, .ref it, .int (iI c)])] [0] hr dX2_count_4 rfl rfl (nl rfl) (nl rfl) ⟨rfl, rfl⟩
theorem dX2_emptyOpen_0 : decode cX2_emptyOpen 0 = .ok (.aload_n 0, 1) := by decide +kernel
theorem dX2_emptyOpen_1 : decode cX2_emptyOpen 1 = .ok (.getfield 11, 3) := by decide +kernel
theorem dX2_emptyOpen_4 : decode cX2_emptyOpen 4 = .ok (.aload_n 0, 1) := by decide +kernel
theorem dX2_emptyOpen_5 : decode cX2_emptyOpen 5 = .ok (.getfield 18, 3) := by decide +kernel
theorem dX2_emptyOpen_8 : decode cX2_emptyOpen 8 = .ok (.iconst 1, 1) := by decide +kernel
theorem dX2_emptyOpen_9 : decode cX2_emptyOpen 9 = .ok (.iadd, 1) := by decide +kernel
theorem dX2_emptyOpen_10 : decode cX2_emptyOpen 10 = .ok (.aload_n 0, 1) := by decide +kernel
theorem dX2_emptyOpen_11 : decode cX2_emptyOpen 11 = .ok (.getfield 11, 3) := by decide +kernel
theorem dX2_emptyOpen_14 : decode cX2_emptyOpen 14 = .ok (.aload_n 0, 1) := by decide +kernel
theorem dX2_emptyOpen_15 : decode cX2_emptyOpen 15 = .ok (.getfield 18, 3) := by decide +kernel
theorem dX2_emptyOpen_18 : decode cX2_emptyOpen 18 = .ok (.iaload, 1) := by decide +kernel
theorem dX2_emptyOpen_19 : decode cX2_emptyOpen 19 = .ok (.iastore, 1) := by decide +kernel
theorem dX2_emptyOpen_20 : decode cX2_emptyOpen 20 = .ok (.return_, 1) := by decide +kernel
abbrev po_c_X2_emptyOpen (g : GG) (h0 : Nat) (h1 : Nat) (it : Nat) (c : Int) (f : Nat → Int32) : Option Value → va_W → Prop := fun v8 w8 => ∃ f2 : Nat → Int32, v8 = none ∧ w8 = [(h0, ob 2 [.ref h1, .ref it, .int (iI c)]), (h1, aI g 27 f2)]
set_option maxHeartbeats 4000000 in
set_option maxRecDepth 100000 in
theorem c_X2_emptyOpen (l : Launch) (g : GG) (h0 : Nat) (h1 : Nat) (it : Nat) (c : Int) (f : Nat → Int32) (hp0 : 0 ≤ c ∧ c ≤ 25) : Ct l g yX2_emptyOpen (wM yX2_emptyOpen cX2_emptyOpen 1 none) (rmD 0 0 0) [.ref h0] [(h0, ob 2 [.ref h1, .ref it, .int (iI c)]), (h1, aI g 27 f)] (po_c_X2_emptyOpen g h0 h1 it c f) := by
  refine Ct_of (by decide +kernel) (Nat.le_of_ble_eq_true rfl) ?_
  intro p9 e9 s9 m9 ag9 bl9 mt9 c9 A9 fx hr hnm
  refine v_aload_n fx 0 dX2_emptyOpen_0 rfl rfl ?_
  refine v_get fx 0 0 inX2 k105 dX2_emptyOpen_1 rfl rfl (by decide) rfl rfl rfl ?_
  refine v_aload_n fx 0 dX2_emptyOpen_4 rfl rfl ?_
  refine v_get fx 0 2 inX2 k107 dX2_emptyOpen_5 rfl rfl (by decide) rfl rfl rfl ?_
  refine v_iconst fx dX2_emptyOpen_8 rfl ?_
  refine v_iadd fx (c + 1) dX2_emptyOpen_9 (by rfl) rfl ?_
  refine v_aload_n fx 0 dX2_emptyOpen_10 rfl rfl ?_
  refine v_get fx 0 0 inX2 k105 dX2_emptyOpen_11 rfl rfl (by decide) rfl rfl rfl ?_
  refine v_aload_n fx 0 dX2_emptyOpen_14 rfl rfl ?_
  refine v_get fx 0 2 inX2 k107 dX2_emptyOpen_15 rfl rfl (by decide) rfl rfl rfl ?_
  refine v_iald fx 1 dX2_emptyOpen_18 rfl (by omega) (by omega) rfl ?_
  obtain ⟨f_1, ef_1⟩ : ∃ f9 : Nat → Int32, upd f (c + 1).toNat (f (c).toNat) = f9 := ⟨_, rfl⟩
  refine v_iast fx 1 f_1 [(h0, ob 2 [.ref h1, .ref it, .int (iI c)]), (h1, aI g 27 f_1)] dX2_emptyOpen_19 rfl (by omega) (by omega) ef_1 rfl rfl ?_
  exact v_vret fx [(h0, ob 2 [.ref h1, .ref it, .int (iI c)]), (h1, aI g 27 f_1)] [0, 1] hr dX2_emptyOpen_20 rfl rfl (nl rfl) (nl rfl) ⟨f_1, rfl, rfl⟩
theorem dX2_close_0 : decode cX2_close 0 = .ok (.aload_n 0, 1) := by decide +kernel
theorem dX2_close_1 : decode cX2_close 1 = .ok (.getfield 18, 3) := by decide +kernel
theorem dX2_close_4 : decode cX2_close 4 = .ok (.bipush 25, 2) := by decide +kernel
theorem dX2_close_6 : decode cX2_close 6 = .ok (.if_icmp .ge 17, 3) := by decide +kernel
theorem dX2_close_9 : decode cX2_close 9 = .ok (.aload_n 0, 1) := by decide +kernel
theorem dX2_close_10 : decode cX2_close 10 = .ok (.dup, 1) := by decide +kernel
theorem dX2_close_11 : decode cX2_close 11 = .ok (.getfield 18, 3) := by decide +kernel
theorem dX2_close_14 : decode cX2_close 14 = .ok (.iconst 1, 1) := by decide +kernel
theorem dX2_close_15 : decode cX2_close 15 = .ok (.iadd, 1) := by decide +kernel
theorem dX2_close_16 : decode cX2_close 16 = .ok (.putfield 18, 3) := by decide +kernel
theorem dX2_close_19 : decode cX2_close 19 = .ok (.aload_n 0, 1) := by decide +kernel
theorem dX2_close_20 : decode cX2_close 20 = .ok (.invokevirtual 36, 3) := by decide +kernel
theorem dX2_close_23 : decode cX2_close 23 = .ok (.return_, 1) := by decide +kernel
abbrev po_c_X2_close (g : GG) (h0 : Nat) (h1 : Nat) (it : Nat) (c : Int) (f : Nat → Int32) : Option Value → va_W → Prop := fun v8 w8 => ∃ f2 : Nat → Int32, v8 = none ∧ w8 = [(h0, ob 2 [.ref h1, .ref it, .int (iI (c + 1))]), (h1, aI g 27 f2)]
set_option maxHeartbeats 4000000 in
set_option maxRecDepth 100000 in
theorem c_X2_close (l : Launch) (g : GG) (h0 : Nat) (h1 : Nat) (it : Nat) (c : Int) (f : Nat → Int32) (hp0 : 0 ≤ c ∧ c < 25) : Ct l g yX2_close (wM yX2_close cX2_close 1 none) (rmD 1 0 0) [.ref h0] [(h0, ob 2 [.ref h1, .ref it, .int (iI c)]), (h1, aI g 27 f)] (po_c_X2_close g h0 h1 it c f) := by
  refine Ct_of (by decide +kernel) (Nat.le_of_ble_eq_true rfl) ?_
  intro p9 e9 s9 m9 ag9 bl9 mt9 c9 A9 fx hr hnm
  refine v_aload_n fx 0 dX2_close_0 rfl rfl ?_
  refine v_get fx 0 2 inX2 k107 dX2_close_1 rfl rfl (by decide) rfl rfl rfl ?_
  refine v_bipush fx dX2_close_4 (by decide +kernel) rfl ?_
  refine v_icmp_ge fx 23 dX2_close_6 (by decide) rfl (by omega) (by omega) (fun h0 => absurd h0 (by omega)) (fun h_1 => ?_)
  refine v_aload_n fx 0 dX2_close_9 rfl rfl ?_
  refine v_dup fx dX2_close_10 rfl rfl ?_
  refine v_get fx 0 2 inX2 k107 dX2_close_11 rfl rfl (by decide) rfl rfl rfl ?_
  refine v_iconst fx dX2_close_14 rfl ?_
  refine v_iadd fx (c + 1) dX2_close_15 (by rfl) rfl ?_
  refine v_put fx 0 2 [(h0, ob 2 [.ref h1, .ref it, .int (iI (c + 1))]), (h1, aI g 27 f)] inX2 tyX2_ok nmX2 k107 dX2_close_16 rfl rfl (by decide) rfl rfl rfl rfl (nl rfl) rfl rfl ?_
  refine v_aload_n fx 0 dX2_close_19 rfl rfl ?_
  refine v_callV (As := []) (rest := []) fx [0, 1] [] [(h0, ob 2 [.ref h1, .ref it, .int (iI (c + 1))]), (h1, aI g 27 f)] [] 0 0 (c_X2_emptyOpen l g h0 h1 it (c + 1) f (by first | omega | decide | assumption)) dX2_close_20 k343 k344 k345 k49 k346 ykX2_emptyOpen rfl rfl rfl rfl rfl rfl rfl rfl (nl rfl) ⟨nl rfl, nl rfl⟩ ⟨(nl rfl), (nl rfl)⟩ rfl (fun v9 w9 hu => ?_)
  obtain ⟨f2_2, rfl, rfl⟩ := hu
  refine v_is (wn := [(h0, ob 2 [.ref h1, .ref it, .int (iI (c + 1))]), (h1, aI g 27 f2_2)]) (cn := 0) (sn := 0) (sn2 := []) rfl rfl rfl rfl ?_
  exact v_vret fx [(h0, ob 2 [.ref h1, .ref it, .int (iI (c + 1))]), (h1, aI g 27 f2_2)] [0, 1] hr dX2_close_23 rfl rfl (nl rfl) (nl rfl) ⟨f2_2, rfl, rfl⟩
theorem dX2_removeAll_0 : decode cX2_removeAll 0 = .ok (.aload_n 0, 1) := by decide +kernel
theorem dX2_removeAll_1 : decode cX2_removeAll 1 = .ok (.iconst 0, 1) := by decide +kernel
theorem dX2_removeAll_2 : decode cX2_removeAll 2 = .ok (.putfield 18, 3) := by decide +kernel
theorem dX2_removeAll_5 : decode cX2_removeAll 5 = .ok (.aload_n 0, 1) := by decide +kernel
theorem dX2_removeAll_6 : decode cX2_removeAll 6 = .ok (.getfield 11, 3) := by decide +kernel
theorem dX2_removeAll_9 : decode cX2_removeAll 9 = .ok (.iconst 1, 1) := by decide +kernel
theorem dX2_removeAll_10 : decode cX2_removeAll 10 = .ok (.iconst 0, 1) := by decide +kernel
theorem dX2_removeAll_11 : decode cX2_removeAll 11 = .ok (.iastore, 1) := by decide +kernel
theorem dX2_removeAll_12 : decode cX2_removeAll 12 = .ok (.return_, 1) := by decide +kernel
abbrev po_c_X2_removeAll (g : GG) (h0 : Nat) (h1 : Nat) (it : Nat) (c : Int) (f : Nat → Int32) : Option Value → va_W → Prop := fun v8 w8 => ∃ f2 : Nat → Int32, v8 = none ∧ w8 = [(h0, ob 2 [.ref h1, .ref it, .int (iI 0)]), (h1, aI g 27 f2)]
set_option maxHeartbeats 4000000 in
set_option maxRecDepth 100000 in
theorem c_X2_removeAll (l : Launch) (g : GG) (h0 : Nat) (h1 : Nat) (it : Nat) (c : Int) (f : Nat → Int32) : Ct l g yX2_removeAll (wM yX2_removeAll cX2_removeAll 1 none) (rmD 0 0 0) [.ref h0] [(h0, ob 2 [.ref h1, .ref it, .int (iI c)]), (h1, aI g 27 f)] (po_c_X2_removeAll g h0 h1 it c f) := by
  refine Ct_of (by decide +kernel) (Nat.le_of_ble_eq_true rfl) ?_
  intro p9 e9 s9 m9 ag9 bl9 mt9 c9 A9 fx hr hnm
  refine v_aload_n fx 0 dX2_removeAll_0 rfl rfl ?_
  refine v_iconst fx dX2_removeAll_1 rfl ?_
  refine v_put fx 0 2 [(h0, ob 2 [.ref h1, .ref it, .int (iI 0)]), (h1, aI g 27 f)] inX2 tyX2_ok nmX2 k107 dX2_removeAll_2 rfl rfl (by decide) rfl rfl rfl rfl (nl rfl) rfl rfl ?_
  refine v_aload_n fx 0 dX2_removeAll_5 rfl rfl ?_
  refine v_get fx 0 0 inX2 k105 dX2_removeAll_6 rfl rfl (by decide) rfl rfl rfl ?_
  refine v_iconst fx dX2_removeAll_9 rfl ?_
  refine v_iconst fx dX2_removeAll_10 rfl ?_
  obtain ⟨f_1, ef_1⟩ : ∃ f9 : Nat → Int32, upd f (1 : Int).toNat (iI 0) = f9 := ⟨_, rfl⟩
  refine v_iast fx 1 f_1 [(h0, ob 2 [.ref h1, .ref it, .int (iI 0)]), (h1, aI g 27 f_1)] dX2_removeAll_11 rfl (by omega) (by omega) ef_1 rfl rfl ?_
  exact v_vret fx [(h0, ob 2 [.ref h1, .ref it, .int (iI 0)]), (h1, aI g 27 f_1)] [0, 1] hr dX2_removeAll_12 rfl rfl (nl rfl) (nl rfl) ⟨f_1, rfl, rfl⟩
theorem dX2_has_0 : decode cX2_has 0 = .ok (.iload_n 1, 1) := by decide +kernel
theorem dX2_has_1 : decode cX2_has 1 = .ok (.ifCond .lt 15, 3) := by decide +kernel
theorem dX2_has_4 : decode cX2_has 4 = .ok (.iload_n 1, 1) := by decide +kernel
theorem dX2_has_5 : decode cX2_has 5 = .ok (.aload_n 0, 1) := by decide +kernel
theorem dX2_has_6 : decode cX2_has 6 = .ok (.getfield 18, 3) := by decide +kernel
theorem dX2_has_9 : decode cX2_has 9 = .ok (.if_icmp .ge 7, 3) := by decide +kernel
theorem dX2_has_12 : decode cX2_has 12 = .ok (.iconst 1, 1) := by decide +kernel
theorem dX2_has_13 : decode cX2_has 13 = .ok (.goto 4, 3) := by decide +kernel
theorem dX2_has_16 : decode cX2_has 16 = .ok (.iconst 0, 1) := by decide +kernel
theorem dX2_has_17 : decode cX2_has 17 = .ok (.ireturn, 1) := by decide +kernel
abbrev po_c_X2_has (g : GG) (h0 : Nat) (h1 : Nat) (it : Nat) (c : Int) (x : Int) : Option Value → va_W → Prop := fun v8 w8 => ∃ r : Int, v8 = some (.int (iI r)) ∧ w8 = [(h0, ob 2 [.ref h1, .ref it, .int (iI c)])] ∧ ((r = 1 ∧ 0 ≤ x ∧ x < c) ∨ (r = 0 ∧ (x < 0 ∨ c ≤ x)))
set_option maxHeartbeats 4000000 in
set_option maxRecDepth 100000 in
theorem c_X2_has (l : Launch) (g : GG) (h0 : Nat) (h1 : Nat) (it : Nat) (c : Int) (x : Int) (hp0 : -2147483648 ≤ x ∧ x < 2147483648) (hp1 : -2147483648 ≤ c ∧ c < 2147483648) : Ct l g yX2_has (wM yX2_has cX2_has 2 (some .boolean)) (rmD 0 0 0) [.ref h0, .int (iI x)] [(h0, ob 2 [.ref h1, .ref it, .int (iI c)])] (po_c_X2_has g h0 h1 it c x) := by
  refine Ct_of (by decide +kernel) (Nat.le_of_ble_eq_true rfl) ?_
  intro p9 e9 s9 m9 ag9 bl9 mt9 c9 A9 fx hr hnm
  refine v_iload_n fx 1 dX2_has_0 rfl rfl ?_
  refine v_if_lt fx 16 dX2_has_1 (by decide) rfl (by omega) (fun h_1 => ?_) (fun h_1 => ?_)
  ·
    refine v_iconst fx dX2_has_16 rfl ?_
    exact v_zret fx [(h0, ob 2 [.ref h1, .ref it, .int (iI c)])] [0] hr dX2_has_17 (by first | rfl | exact nar_z _ (by omega)) rfl rfl (nl rfl) (nl rfl) ⟨0, rfl, rfl, (by first | omega | rfl | assumption)⟩
  ·
    refine v_iload_n fx 1 dX2_has_4 rfl rfl ?_
    refine v_aload_n fx 0 dX2_has_5 rfl rfl ?_
    refine v_get fx 0 2 inX2 k107 dX2_has_6 rfl rfl (by decide) rfl rfl rfl ?_
    refine v_icmp_ge fx 16 dX2_has_9 (by decide) rfl (by omega) (by omega) (fun h_2 => ?_) (fun h_2 => ?_)
    ·
      refine v_iconst fx dX2_has_16 rfl ?_
      exact v_zret fx [(h0, ob 2 [.ref h1, .ref it, .int (iI c)])] [0] hr dX2_has_17 (by first | rfl | exact nar_z _ (by omega)) rfl rfl (nl rfl) (nl rfl) ⟨0, rfl, rfl, (by first | omega | rfl | assumption)⟩
    ·
      refine v_iconst fx dX2_has_12 rfl ?_
      refine v_goto fx 17 dX2_has_13 (by decide) ?_
      exact v_zret fx [(h0, ob 2 [.ref h1, .ref it, .int (iI c)])] [0] hr dX2_has_17 (by first | rfl | exact nar_z _ (by omega)) rfl rfl (nl rfl) (nl rfl) ⟨1, rfl, rfl, (by first | omega | rfl | assumption)⟩
theorem dX0_byteCount_0 : decode cX0_byteCount 0 = .ok (.aload_n 0, 1) := by decide +kernel
theorem dX0_byteCount_1 : decode cX0_byteCount 1 = .ok (.getfield 29, 3) := by decide +kernel
theorem dX0_byteCount_4 : decode cX0_byteCount 4 = .ok (.bipush 7, 2) := by decide +kernel
theorem dX0_byteCount_6 : decode cX0_byteCount 6 = .ok (.iadd, 1) := by decide +kernel
theorem dX0_byteCount_7 : decode cX0_byteCount 7 = .ok (.iconst 3, 1) := by decide +kernel
theorem dX0_byteCount_8 : decode cX0_byteCount 8 = .ok (.ishr, 1) := by decide +kernel
theorem dX0_byteCount_9 : decode cX0_byteCount 9 = .ok (.ireturn, 1) := by decide +kernel
abbrev po_c_X0_byteCount (g : GG) (h0 : Nat) (ba : Nat) (c : Int) (pl : Int32) (tu : Int32) : Option Value → va_W → Prop := fun v8 w8 => v8 = some (.int (iI ((c + 7) / 8))) ∧ w8 = [(h0, ob 0 [.ref ba, .int (iI c), .int pl, .int tu])]
set_option maxHeartbeats 4000000 in
set_option maxRecDepth 100000 in
theorem c_X0_byteCount (l : Launch) (g : GG) (h0 : Nat) (ba : Nat) (c : Int) (pl : Int32) (tu : Int32) (hp0 : 0 ≤ c ∧ c < 100000000) : Ct l g yX0_byteCount (wM yX0_byteCount cX0_byteCount 1 (some .int)) (rmD 0 0 0) [.ref h0] [(h0, ob 0 [.ref ba, .int (iI c), .int pl, .int tu])] (po_c_X0_byteCount g h0 ba c pl tu) := by
  refine Ct_of (by decide +kernel) (Nat.le_of_ble_eq_true rfl) ?_
  intro p9 e9 s9 m9 ag9 bl9 mt9 c9 A9 fx hr hnm
  refine v_aload_n fx 0 dX0_byteCount_0 rfl rfl ?_
  refine v_get fx 0 1 inX0 k122 dX0_byteCount_1 rfl rfl (by decide) rfl rfl rfl ?_
  refine v_bipush fx dX0_byteCount_4 (by decide +kernel) rfl ?_
  refine v_iadd fx (c + 7) dX0_byteCount_6 (by rfl) rfl ?_
  refine v_iconst fx dX0_byteCount_7 rfl ?_
  refine v_ishr fx (iI ((c + 7) / 8)) dX0_byteCount_8 (iI_shr (k := 3) (by omega) _ (by decide)) rfl ?_
  exact v_iret fx [(h0, ob 0 [.ref ba, .int (iI c), .int pl, .int tu])] [0] hr dX0_byteCount_9 rfl rfl (nl rfl) (nl rfl) ⟨rfl, rfl⟩
theorem dX0_removeAll_0 : decode cX0_removeAll 0 = .ok (.aload_n 0, 1) := by decide +kernel
theorem dX0_removeAll_1 : decode cX0_removeAll 1 = .ok (.getfield 9, 3) := by decide +kernel
theorem dX0_removeAll_4 : decode cX0_removeAll 4 = .ok (.iconst 0, 1) := by decide +kernel
theorem dX0_removeAll_5 : decode cX0_removeAll 5 = .ok (.aload_n 0, 1) := by decide +kernel
theorem dX0_removeAll_6 : decode cX0_removeAll 6 = .ok (.invokevirtual 19, 3) := by decide +kernel
theorem dX0_removeAll_9 : decode cX0_removeAll 9 = .ok (.iconst 0, 1) := by decide +kernel
theorem dX0_removeAll_10 : decode cX0_removeAll 10 = .ok (.invokestatic 23, 3) := by decide +kernel
theorem dX0_removeAll_13 : decode cX0_removeAll 13 = .ok (.aload_n 0, 1) := by decide +kernel
theorem dX0_removeAll_14 : decode cX0_removeAll 14 = .ok (.iconst 0, 1) := by decide +kernel
theorem dX0_removeAll_15 : decode cX0_removeAll 15 = .ok (.putfield 29, 3) := by decide +kernel
theorem dX0_removeAll_18 : decode cX0_removeAll 18 = .ok (.aload_n 0, 1) := by decide +kernel
theorem dX0_removeAll_19 : decode cX0_removeAll 19 = .ok (.iconst 0, 1) := by decide +kernel
theorem dX0_removeAll_20 : decode cX0_removeAll 20 = .ok (.putfield 32, 3) := by decide +kernel
theorem dX0_removeAll_23 : decode cX0_removeAll 23 = .ok (.return_, 1) := by decide +kernel
abbrev po_c_X0_removeAll (g : GG) (h0 : Nat) (ba : Nat) (n : Nat) (f : Nat → Int32) (c : Int) (pl : Int32) (tu : Int32) : Option Value → va_W → Prop := fun v8 w8 => ∃ f2 : Nat → Int32, v8 = none ∧ w8 = [(h0, ob 0 [.ref ba, .int (iI 0), .int (iI 0), .int tu]), (ba, aB g n f2)]
set_option maxHeartbeats 4000000 in
set_option maxRecDepth 100000 in
theorem c_X0_removeAll (l : Launch) (g : GG) (h0 : Nat) (ba : Nat) (n : Nat) (f : Nat → Int32) (c : Int) (pl : Int32) (tu : Int32) (hp0 : 0 ≤ c ∧ c < 100000000) (hp1 : (c + 7) / 8 ≤ (n : Int)) (hp2 : n < 1000000) : Ct l g yX0_removeAll (wM yX0_removeAll cX0_removeAll 1 none) (rmD 2 0 0) [.ref h0] [(h0, ob 0 [.ref ba, .int (iI c), .int pl, .int tu]), (ba, aB g n f)] (po_c_X0_removeAll g h0 ba n f c pl tu) := by
  refine Ct_of (by decide +kernel) (Nat.le_of_ble_eq_true rfl) ?_
  intro p9 e9 s9 m9 ag9 bl9 mt9 c9 A9 fx hr hnm
  refine v_aload_n fx 0 dX0_removeAll_0 rfl rfl ?_
  refine v_get fx 0 0 inX0 k121 dX0_removeAll_1 rfl rfl (by decide) rfl rfl rfl ?_
  refine v_iconst fx dX0_removeAll_4 rfl ?_
  refine v_aload_n fx 0 dX0_removeAll_5 rfl rfl ?_
  refine v_callV (As := []) (rest := [.int (iI 0), .ref ba]) fx [0] [1] [(h0, ob 0 [.ref ba, .int (iI c), .int pl, .int tu])] [(ba, aB g n f)] 0 0 (c_X0_byteCount l g h0 ba c pl tu (by first | omega | decide | assumption)) dX0_removeAll_6 k362 k363 k364 k50 k365 ykX0_byteCount rfl rfl rfl rfl rfl rfl rfl rfl (nl rfl) ⟨nl rfl, nl rfl⟩ ⟨(nl rfl), (nl rfl)⟩ rfl (fun v9 w9 hu => ?_)
  obtain ⟨rfl, rfl⟩ := hu
  refine v_is (wn := [(ba, aB g n f), (h0, ob 0 [.ref ba, .int (iI c), .int pl, .int tu])]) (cn := 0) (sn := 0) (sn2 := [.int (iI ((c + 7) / 8)), .int (iI 0), .ref ba]) rfl rfl rfl rfl ?_
  refine v_iconst fx dX0_removeAll_9 rfl ?_
  refine v_callS (As := [.ref ba, .int (iI 0), .int (iI ((c + 7) / 8)), .int (iI 0)]) (rest := []) fx [0] [1] [(ba, aB g n f)] [(h0, ob 0 [.ref ba, .int (iI c), .int pl, .int tu])] 4 (c_J7_fill_eb02e l g ba n f 0 ((c + 7) / 8) (iI 0) (by first | omega | decide | assumption) (by first | omega | decide | assumption)) dX0_removeAll_10 k366 k367 k55 k368 ykJ7_fill_eb02e rfl rfl rfl rfl rfl (nl rfl) ⟨nl rfl, nl rfl⟩ ⟨(nl rfl), (nl rfl)⟩ rfl (fun v9 w9 hu => ?_)
  obtain ⟨f2_1, rfl, rfl⟩ := hu
  refine v_is (wn := [(h0, ob 0 [.ref ba, .int (iI c), .int pl, .int tu]), (ba, aB g n f2_1)]) (cn := 0) (sn := 0) (sn2 := []) rfl rfl rfl rfl ?_
  refine v_aload_n fx 0 dX0_removeAll_13 rfl rfl ?_
  refine v_iconst fx dX0_removeAll_14 rfl ?_
  refine v_put fx 0 1 [(h0, ob 0 [.ref ba, .int (iI 0), .int pl, .int tu]), (ba, aB g n f2_1)] inX0 tyX0_ok nmX0 k122 dX0_removeAll_15 rfl rfl (by decide) rfl rfl rfl rfl (nl rfl) rfl rfl ?_
  refine v_aload_n fx 0 dX0_removeAll_18 rfl rfl ?_
  refine v_iconst fx dX0_removeAll_19 rfl ?_
  refine v_put fx 0 2 [(h0, ob 0 [.ref ba, .int (iI 0), .int (iI 0), .int tu]), (ba, aB g n f2_1)] inX0 tyX0_ok nmX0 k123 dX0_removeAll_20 rfl rfl (by decide) rfl rfl rfl rfl (nl rfl) rfl rfl ?_
  exact v_vret fx [(h0, ob 0 [.ref ba, .int (iI 0), .int (iI 0), .int tu]), (ba, aB g n f2_1)] [0, 1] hr dX0_removeAll_23 rfl rfl (nl rfl) (nl rfl) ⟨f2_1, rfl, rfl⟩
theorem dX0_makeRoomFor_0 : decode cX0_makeRoomFor 0 = .ok (.aload_n 0, 1) := by decide +kernel
theorem dX0_makeRoomFor_1 : decode cX0_makeRoomFor 1 = .ok (.getfield 29, 3) := by decide +kernel
theorem dX0_makeRoomFor_4 : decode cX0_makeRoomFor 4 = .ok (.iload_n 1, 1) := by decide +kernel
theorem dX0_makeRoomFor_5 : decode cX0_makeRoomFor 5 = .ok (.iadd, 1) := by decide +kernel
theorem dX0_makeRoomFor_6 : decode cX0_makeRoomFor 6 = .ok (.bipush 7, 2) := by decide +kernel
theorem dX0_makeRoomFor_8 : decode cX0_makeRoomFor 8 = .ok (.iadd, 1) := by decide +kernel
theorem dX0_makeRoomFor_9 : decode cX0_makeRoomFor 9 = .ok (.iconst 3, 1) := by decide +kernel
theorem dX0_makeRoomFor_10 : decode cX0_makeRoomFor 10 = .ok (.ishr, 1) := by decide +kernel
theorem dX0_makeRoomFor_11 : decode cX0_makeRoomFor 11 = .ok (.istore_n 2, 1) := by decide +kernel
theorem dX0_makeRoomFor_12 : decode cX0_makeRoomFor 12 = .ok (.iload_n 2, 1) := by decide +kernel
theorem dX0_makeRoomFor_13 : decode cX0_makeRoomFor 13 = .ok (.aload_n 0, 1) := by decide +kernel
theorem dX0_makeRoomFor_14 : decode cX0_makeRoomFor 14 = .ok (.getfield 9, 3) := by decide +kernel
theorem dX0_makeRoomFor_17 : decode cX0_makeRoomFor 17 = .ok (.arraylength, 1) := by decide +kernel
theorem dX0_makeRoomFor_18 : decode cX0_makeRoomFor 18 = .ok (.if_icmp .le 25, 3) := by decide +kernel
theorem dX0_makeRoomFor_43 : decode cX0_makeRoomFor 43 = .ok (.return_, 1) := by decide +kernel
abbrev po_c_X0_makeRoomFor_is (g : GG) (h0 : Nat) (ba : Nat) (n : Nat) (f : Nat → Int32) (c : Int) (pl : Int32) (tu : Int32) (x : Int) : Option Value → va_W → Prop := fun v8 w8 => v8 = none ∧ w8 = [(h0, ob 0 [.ref ba, .int (iI c), .int pl, .int tu]), (ba, aB g n f)]
set_option maxHeartbeats 4000000 in
set_option maxRecDepth 100000 in
/-- there is room -/
theorem c_X0_makeRoomFor_is (l : Launch) (g : GG) (h0 : Nat) (ba : Nat) (n : Nat) (f : Nat → Int32) (c : Int) (pl : Int32) (tu : Int32) (x : Int) (hp0 : 0 ≤ c ∧ c < 100000000) (hp1 : 0 ≤ x ∧ x < 100000) (hp2 : (c + x + 7) / 8 ≤ (n : Int)) (hp3 : n < 1000000) : Ct l g yX0_makeRoomFor (wM yX0_makeRoomFor cX0_makeRoomFor 3 none) (rmD 0 0 0) [.ref h0, .int (iI x)] [(h0, ob 0 [.ref ba, .int (iI c), .int pl, .int tu]), (ba, aB g n f)] (po_c_X0_makeRoomFor_is g h0 ba n f c pl tu x) := by
  refine Ct_of (by decide +kernel) (Nat.le_of_ble_eq_true rfl) ?_
  intro p9 e9 s9 m9 ag9 bl9 mt9 c9 A9 fx hr hnm
  refine v_aload_n fx 0 dX0_makeRoomFor_0 rfl rfl ?_
  refine v_get fx 0 1 inX0 k122 dX0_makeRoomFor_1 rfl rfl (by decide) rfl rfl rfl ?_
  refine v_iload_n fx 1 dX0_makeRoomFor_4 rfl rfl ?_
  refine v_iadd fx (c + x) dX0_makeRoomFor_5 (by rfl) rfl ?_
  refine v_bipush fx dX0_makeRoomFor_6 (by decide +kernel) rfl ?_
  refine v_iadd fx ((c + x) + 7) dX0_makeRoomFor_8 (by rfl) rfl ?_
  refine v_iconst fx dX0_makeRoomFor_9 rfl ?_
  refine v_ishr fx (iI (((c + x) + 7) / 8)) dX0_makeRoomFor_10 (iI_shr (k := 3) (by omega) _ (by decide)) rfl ?_
  refine v_istore_n fx [(2, .int (iI (((c + x) + 7) / 8))), (0, .ref h0), (1, .int (iI x))] dX0_makeRoomFor_11 (by decide) rfl rfl ?_
  refine v_iload_n fx 0 dX0_makeRoomFor_12 rfl rfl ?_
  refine v_aload_n fx 1 dX0_makeRoomFor_13 rfl rfl ?_
  refine v_get fx 0 0 inX0 k121 dX0_makeRoomFor_14 rfl rfl (by decide) rfl rfl rfl ?_
  refine v_alen fx 1 1 (n : Int) dX0_makeRoomFor_17 rfl rfl rfl rfl ?_
  refine v_icmp_le fx 43 dX0_makeRoomFor_18 (by decide) rfl (by omega) (by omega) (fun h_1 => ?_) (fun h0 => absurd h0 (by omega))
  exact v_vret fx [(h0, ob 0 [.ref ba, .int (iI c), .int pl, .int tu]), (ba, aB g n f)] [0, 1] hr dX0_makeRoomFor_43 rfl rfl (nl rfl) (nl rfl) ⟨rfl, rfl⟩
theorem dX0_addByte_0 : decode cX0_addByte 0 = .ok (.aload_n 0, 1) := by decide +kernel
theorem dX0_addByte_1 : decode cX0_addByte 1 = .ok (.bipush 8, 2) := by decide +kernel
theorem dX0_addByte_3 : decode cX0_addByte 3 = .ok (.invokevirtual 35, 3) := by decide +kernel
theorem dX0_addByte_6 : decode cX0_addByte 6 = .ok (.aload_n 0, 1) := by decide +kernel
theorem dX0_addByte_7 : decode cX0_addByte 7 = .ok (.getfield 9, 3) := by decide +kernel
theorem dX0_addByte_10 : decode cX0_addByte 10 = .ok (.aload_n 0, 1) := by decide +kernel
theorem dX0_addByte_11 : decode cX0_addByte 11 = .ok (.getfield 29, 3) := by decide +kernel
theorem dX0_addByte_14 : decode cX0_addByte 14 = .ok (.iconst 3, 1) := by decide +kernel
theorem dX0_addByte_15 : decode cX0_addByte 15 = .ok (.ishr, 1) := by decide +kernel
theorem dX0_addByte_16 : decode cX0_addByte 16 = .ok (.iload_n 1, 1) := by decide +kernel
theorem dX0_addByte_17 : decode cX0_addByte 17 = .ok (.i2b, 1) := by decide +kernel
theorem dX0_addByte_18 : decode cX0_addByte 18 = .ok (.bastore, 1) := by decide +kernel
theorem dX0_addByte_19 : decode cX0_addByte 19 = .ok (.aload_n 0, 1) := by decide +kernel
theorem dX0_addByte_20 : decode cX0_addByte 20 = .ok (.dup, 1) := by decide +kernel
theorem dX0_addByte_21 : decode cX0_addByte 21 = .ok (.getfield 29, 3) := by decide +kernel
theorem dX0_addByte_24 : decode cX0_addByte 24 = .ok (.bipush 8, 2) := by decide +kernel
theorem dX0_addByte_26 : decode cX0_addByte 26 = .ok (.iadd, 1) := by decide +kernel
theorem dX0_addByte_27 : decode cX0_addByte 27 = .ok (.putfield 29, 3) := by decide +kernel
theorem dX0_addByte_30 : decode cX0_addByte 30 = .ok (.return_, 1) := by decide +kernel
abbrev po_c_X0_addByte_is (g : GG) (h0 : Nat) (ba : Nat) (n : Nat) (f : Nat → Int32) (c : Int) (pl : Int32) (tu : Int32) (x : Int32) : Option Value → va_W → Prop := fun v8 w8 => ∃ f2 : Nat → Int32, v8 = none ∧ w8 = [(h0, ob 0 [.ref ba, .int (iI (c + 8)), .int pl, .int tu]), (ba, aB g n f2)]
set_option maxHeartbeats 4000000 in
set_option maxRecDepth 100000 in
theorem c_X0_addByte_is (l : Launch) (g : GG) (h0 : Nat) (ba : Nat) (n : Nat) (f : Nat → Int32) (c : Int) (pl : Int32) (tu : Int32) (x : Int32) (hp0 : 0 ≤ c ∧ c < 100000000) (hp1 : (c + 15) / 8 ≤ (n : Int)) (hp2 : n < 1000000) : Ct l g yX0_addByte (wM yX0_addByte cX0_addByte 2 none) (rmD 1 0 0) [.ref h0, .int x] [(h0, ob 0 [.ref ba, .int (iI c), .int pl, .int tu]), (ba, aB g n f)] (po_c_X0_addByte_is g h0 ba n f c pl tu x) := by
  refine Ct_of (by decide +kernel) (Nat.le_of_ble_eq_true rfl) ?_
  intro p9 e9 s9 m9 ag9 bl9 mt9 c9 A9 fx hr hnm
  refine v_aload_n fx 0 dX0_addByte_0 rfl rfl ?_
  refine v_bipush fx dX0_addByte_1 (by decide +kernel) rfl ?_
  refine v_callV (As := [.int (iI 8)]) (rest := []) fx [0, 1] [] [(h0, ob 0 [.ref ba, .int (iI c), .int pl, .int tu]), (ba, aB g n f)] [] 1 0 (c_X0_makeRoomFor_is l g h0 ba n f c pl tu 8 (by first | omega | decide | assumption) (by first | omega | decide | assumption) (by first | omega | decide | assumption) (by first | omega | decide | assumption)) dX0_addByte_3 k707 k709 k8 k50 k710 ykX0_makeRoomFor rfl rfl rfl rfl rfl rfl rfl rfl (nl rfl) ⟨nl rfl, nl rfl⟩ ⟨(nl rfl), (nl rfl)⟩ rfl (fun v9 w9 hu => ?_)
  obtain ⟨rfl, rfl⟩ := hu
  refine v_is (wn := [(h0, ob 0 [.ref ba, .int (iI c), .int pl, .int tu]), (ba, aB g n f)]) (cn := 0) (sn := 0) (sn2 := []) rfl rfl rfl rfl ?_
  refine v_aload_n fx 0 dX0_addByte_6 rfl rfl ?_
  refine v_get fx 0 0 inX0 k121 dX0_addByte_7 rfl rfl (by decide) rfl rfl rfl ?_
  refine v_aload_n fx 0 dX0_addByte_10 rfl rfl ?_
  refine v_get fx 0 1 inX0 k122 dX0_addByte_11 rfl rfl (by decide) rfl rfl rfl ?_
  refine v_iconst fx dX0_addByte_14 rfl ?_
  refine v_ishr fx (iI (c / 8)) dX0_addByte_15 (iI_shr (k := 3) (by omega) _ (by decide)) rfl ?_
  refine v_iload_n fx 1 dX0_addByte_16 rfl rfl ?_
  refine v_i2b fx ((x).toInt8.toInt32) dX0_addByte_17 rfl rfl ?_
  obtain ⟨f_1, ef_1⟩ : ∃ f9 : Nat → Int32, upd f (c / 8).toNat (vp_nar .byte ((x).toInt8.toInt32)) = f9 := ⟨_, rfl⟩
  refine v_bast fx 1 f_1 [(h0, ob 0 [.ref ba, .int (iI c), .int pl, .int tu]), (ba, aB g n f_1)] dX0_addByte_18 rfl (by omega) (by omega) ef_1 rfl rfl ?_
  refine v_aload_n fx 0 dX0_addByte_19 rfl rfl ?_
  refine v_dup fx dX0_addByte_20 rfl rfl ?_
  refine v_get fx 0 1 inX0 k122 dX0_addByte_21 rfl rfl (by decide) rfl rfl rfl ?_
  refine v_bipush fx dX0_addByte_24 (by decide +kernel) rfl ?_
  refine v_iadd fx (c + 8) dX0_addByte_26 (by rfl) rfl ?_
  refine v_put fx 0 1 [(h0, ob 0 [.ref ba, .int (iI (c + 8)), .int pl, .int tu]), (ba, aB g n f_1)] inX0 tyX0_ok nmX0 k122 dX0_addByte_27 rfl rfl (by decide) rfl rfl rfl rfl (nl rfl) rfl rfl ?_
  exact v_vret fx [(h0, ob 0 [.ref ba, .int (iI (c + 8)), .int pl, .int tu]), (ba, aB g n f_1)] [0, 1] hr dX0_addByte_30 rfl rfl (nl rfl) (nl rfl) ⟨f_1, rfl, rfl⟩
theorem dX0_addCode_0 : decode cX0_addCode 0 = .ok (.aload_n 0, 1) := by decide +kernel
theorem dX0_addCode_1 : decode cX0_addCode 1 = .ok (.bipush 13, 2) := by decide +kernel
theorem dX0_addCode_3 : decode cX0_addCode 3 = .ok (.invokevirtual 35, 3) := by decide +kernel
theorem dX0_addCode_6 : decode cX0_addCode 6 = .ok (.iload_n 1, 1) := by decide +kernel
theorem dX0_addCode_7 : decode cX0_addCode 7 = .ok (.invokestatic 39, 3) := by decide +kernel
theorem dX0_addCode_10 : decode cX0_addCode 10 = .ok (.iconst 1, 1) := by decide +kernel
theorem dX0_addCode_11 : decode cX0_addCode 11 = .ok (.ishr, 1) := by decide +kernel
theorem dX0_addCode_12 : decode cX0_addCode 12 = .ok (.istore_n 2, 1) := by decide +kernel
theorem dX0_addCode_13 : decode cX0_addCode 13 = .ok (.iload_n 2, 1) := by decide +kernel
theorem dX0_addCode_14 : decode cX0_addCode 14 = .ok (.ifCond .le 55, 3) := by decide +kernel
theorem dX0_addCode_17 : decode cX0_addCode 17 = .ok (.iload_n 1, 1) := by decide +kernel
theorem dX0_addCode_18 : decode cX0_addCode 18 = .ok (.iload_n 2, 1) := by decide +kernel
theorem dX0_addCode_19 : decode cX0_addCode 19 = .ok (.iand, 1) := by decide +kernel
theorem dX0_addCode_20 : decode cX0_addCode 20 = .ok (.ifCond .eq 32, 3) := by decide +kernel
theorem dX0_addCode_23 : decode cX0_addCode 23 = .ok (.aload_n 0, 1) := by decide +kernel
theorem dX0_addCode_24 : decode cX0_addCode 24 = .ok (.getfield 9, 3) := by decide +kernel
theorem dX0_addCode_27 : decode cX0_addCode 27 = .ok (.aload_n 0, 1) := by decide +kernel
theorem dX0_addCode_28 : decode cX0_addCode 28 = .ok (.getfield 29, 3) := by decide +kernel
theorem dX0_addCode_31 : decode cX0_addCode 31 = .ok (.iconst 3, 1) := by decide +kernel
theorem dX0_addCode_32 : decode cX0_addCode 32 = .ok (.ishr, 1) := by decide +kernel
theorem dX0_addCode_33 : decode cX0_addCode 33 = .ok (.dup2, 1) := by decide +kernel
theorem dX0_addCode_34 : decode cX0_addCode 34 = .ok (.baload, 1) := by decide +kernel
theorem dX0_addCode_35 : decode cX0_addCode 35 = .ok (.iconst 1, 1) := by decide +kernel
theorem dX0_addCode_36 : decode cX0_addCode 36 = .ok (.aload_n 0, 1) := by decide +kernel
theorem dX0_addCode_37 : decode cX0_addCode 37 = .ok (.getfield 29, 3) := by decide +kernel
theorem dX0_addCode_40 : decode cX0_addCode 40 = .ok (.bipush 7, 2) := by decide +kernel
theorem dX0_addCode_42 : decode cX0_addCode 42 = .ok (.iand, 1) := by decide +kernel
theorem dX0_addCode_43 : decode cX0_addCode 43 = .ok (.aload_n 0, 1) := by decide +kernel
theorem dX0_addCode_44 : decode cX0_addCode 44 = .ok (.getfield 15, 3) := by decide +kernel
theorem dX0_addCode_47 : decode cX0_addCode 47 = .ok (.ixor, 1) := by decide +kernel
theorem dX0_addCode_48 : decode cX0_addCode 48 = .ok (.ishl, 1) := by decide +kernel
theorem dX0_addCode_49 : decode cX0_addCode 49 = .ok (.ior, 1) := by decide +kernel
theorem dX0_addCode_50 : decode cX0_addCode 50 = .ok (.i2b, 1) := by decide +kernel
theorem dX0_addCode_51 : decode cX0_addCode 51 = .ok (.bastore, 1) := by decide +kernel
theorem dX0_addCode_52 : decode cX0_addCode 52 = .ok (.aload_n 0, 1) := by decide +kernel
theorem dX0_addCode_53 : decode cX0_addCode 53 = .ok (.dup, 1) := by decide +kernel
theorem dX0_addCode_54 : decode cX0_addCode 54 = .ok (.getfield 29, 3) := by decide +kernel
theorem dX0_addCode_57 : decode cX0_addCode 57 = .ok (.iconst 1, 1) := by decide +kernel
theorem dX0_addCode_58 : decode cX0_addCode 58 = .ok (.iadd, 1) := by decide +kernel
theorem dX0_addCode_59 : decode cX0_addCode 59 = .ok (.putfield 29, 3) := by decide +kernel
theorem dX0_addCode_62 : decode cX0_addCode 62 = .ok (.iload_n 2, 1) := by decide +kernel
theorem dX0_addCode_63 : decode cX0_addCode 63 = .ok (.iconst 1, 1) := by decide +kernel
theorem dX0_addCode_64 : decode cX0_addCode 64 = .ok (.ishr, 1) := by decide +kernel
theorem dX0_addCode_65 : decode cX0_addCode 65 = .ok (.istore_n 2, 1) := by decide +kernel
theorem dX0_addCode_66 : decode cX0_addCode 66 = .ok (.goto (-53), 3) := by decide +kernel
theorem dX0_addCode_69 : decode cX0_addCode 69 = .ok (.return_, 1) := by decide +kernel
abbrev po_c_X0_addCode_is (g : GG) (h0 : Nat) (ba : Nat) (n : Nat) (f : Nat → Int32) (c : Int) (pl : Int32) (tu : Int32) (x : Int) (j : Nat) : Option Value → va_W → Prop := fun v8 w8 => ∃ c2 : Int, ∃ f2 : Nat → Int32, v8 = none ∧ w8 = [(h0, ob 0 [.ref ba, .int (iI c2), .int pl, .int tu]), (ba, aB g n f2)] ∧ (c2 = c + (j : Int))
set_option maxHeartbeats 4000000 in
set_option maxRecDepth 100000 in
/-- a code comes behind the bits, where there is room -/
theorem c_X0_addCode_is (l : Launch) (g : GG) (h0 : Nat) (ba : Nat) (n : Nat) (f : Nat → Int32) (c : Int) (pl : Int32) (tu : Int32) (x : Int) (j : Nat) (hp0 : 0 ≤ c ∧ c < 100000000) (hp1 : (c + 20) / 8 ≤ (n : Int)) (hp2 : n < 1000000) (hp3 : ((2 ^ j : Nat) : Int) ≤ x ∧ x < 2 * ((2 ^ j : Nat) : Int)) (hp4 : j ≤ 12) (hp5 : -2147483648 ≤ x ∧ x < 2147483648) : Ct l g yX0_addCode (wM yX0_addCode cX0_addCode 3 none) (rmD 1 0 0) [.ref h0, .int (iI x)] [(h0, ob 0 [.ref ba, .int (iI c), .int pl, .int tu]), (ba, aB g n f)] (po_c_X0_addCode_is g h0 ba n f c pl tu x j) := by
  refine Ct_of (by decide +kernel) (Nat.le_of_ble_eq_true rfl) ?_
  intro p9 e9 s9 m9 ag9 bl9 mt9 c9 A9 fx hr hnm
  refine v_aload_n fx 0 dX0_addCode_0 rfl rfl ?_
  refine v_bipush fx dX0_addCode_1 (by decide +kernel) rfl ?_
  refine v_callV (As := [.int (iI 13)]) (rest := []) fx [0, 1] [] [(h0, ob 0 [.ref ba, .int (iI c), .int pl, .int tu]), (ba, aB g n f)] [] 1 0 (c_X0_makeRoomFor_is l g h0 ba n f c pl tu 13 (by first | omega | decide | assumption) (by first | omega | decide | assumption) (by first | omega | decide | assumption) (by first | omega | decide | assumption)) dX0_addCode_3 k707 k709 k8 k50 k710 ykX0_makeRoomFor rfl rfl rfl rfl rfl rfl rfl rfl (nl rfl) ⟨nl rfl, nl rfl⟩ ⟨(nl rfl), (nl rfl)⟩ rfl (fun v9 w9 hu => ?_)
  obtain ⟨rfl, rfl⟩ := hu
  refine v_is (wn := [(h0, ob 0 [.ref ba, .int (iI c), .int pl, .int tu]), (ba, aB g n f)]) (cn := 0) (sn := 0) (sn2 := []) rfl rfl rfl rfl ?_
  refine v_iload_n fx 1 dX0_addCode_6 rfl rfl ?_
  refine v_callSN (As := [.int (iI x)]) (rest := []) fx [] [0, 1] [] [(h0, ob 0 [.ref ba, .int (iI c), .int pl, .int tu]), (ba, aB g n f)] 1 (c_X7_topBit l g x (by first | omega | decide | assumption)) dX0_addCode_7 n713 k212 k46 k213 ykX7_topBit rfl rfl rfl rfl rfl (nl rfl) ⟨nl rfl, nl rfl⟩ ⟨(nl rfl), (nl rfl)⟩ rfl (fun v9 w9 hu => ?_)
  obtain ⟨t_1, rfl, rfl, u_1, u_2, u_3, u_4⟩ := hu
  refine v_is (wn := [(h0, ob 0 [.ref ba, .int (iI c), .int pl, .int tu]), (ba, aB g n f)]) (cn := 0) (sn := 0) (sn2 := [.int (iI t_1)]) rfl rfl rfl rfl ?_
  have ht := top_eq (t := t_1) hp4 hp3 (by assumption) (by assumption) (by assumption)
  refine v_iconst fx dX0_addCode_10 rfl ?_
  refine v_ishr fx (iI (t_1 / 2)) dX0_addCode_11 (iI_shr (k := 1) (by omega) _ (by decide)) rfl ?_
  refine v_istore_n fx [(2, .int (iI (t_1 / 2))), (0, .ref h0), (1, .int (iI x))] dX0_addCode_12 (by decide) rfl rfl ?_
  have L13 : ∀ (N : Nat) (i : Nat) (b : Int) (c1 : Int) (f1 : Nat → Int32), (b = hb2 i) → (i ≤ 12) → (c1 + (i : Int) = c + (j : Int)) → (c ≤ c1) → b.toNat < N → V p9 l e9 (rmD 1 0 0) s9 m9 ag9 bl9 mt9 c9 3 g A9 (MQ bl9 (cQ g (po_c_X0_addCode_is g h0 ba n f c pl tu x j) A9) ag9 s9 0 0 A9) [(h0, ob 0 [.ref ba, .int (iI c1), .int pl, .int tu]), (ba, aB g n f1)] 0 0 [(0, .ref h0), (1, .int (iI x)), (2, .int (iI b))] 13 [] := by
    intro N
    induction N with
    | zero => intro i b c1 f1 hi13_0 hi13_1 hi13_2 hi13_3 hN; exact absurd hN (Nat.not_lt_zero _)
    | succ N ihL13 =>
      intro i b c1 f1 hi13_0 hi13_1 hi13_2 hi13_3 hN13
      have hbb := hb2_bnd hi13_0 hi13_1
      refine v_iload_n fx 2 dX0_addCode_13 rfl rfl ?_
      refine v_if_le fx 69 dX0_addCode_14 (by decide) rfl (by omega) (fun h_5 => ?_) (fun h_5 => ?_)
      ·
        have hi0 := hb2_end hi13_0 (by omega)
        exact v_vret fx [(h0, ob 0 [.ref ba, .int (iI c1), .int pl, .int tu]), (ba, aB g n f1)] [0, 1] hr dX0_addCode_69 rfl rfl (nl rfl) (nl rfl) ⟨c1, f1, rfl, rfl, (by first | omega | rfl | assumption)⟩
      ·
        obtain ⟨i1, rfl, hb1⟩ := hb2_step hi13_0 (by omega)
        refine v_iload_n fx 1 dX0_addCode_17 rfl rfl ?_
        refine v_iload_n fx 2 dX0_addCode_18 rfl rfl ?_
        obtain ⟨t_6, et_6⟩ : ∃ x9 : Int32, (iI x) &&& (iI b) = x9 := ⟨_, rfl⟩
        refine v_iand fx t_6 dX0_addCode_19 et_6 rfl ?_
        refine v_any (fun z_7 hz_7 ez_7 => ?_)
        refine v_if_eq fx 52 dX0_addCode_20 (by decide) rfl (by omega) (fun h_8 => ?_) (fun h_8 => ?_)
        ·
          refine v_aload_n fx 0 dX0_addCode_52 rfl rfl ?_
          refine v_dup fx dX0_addCode_53 rfl rfl ?_
          refine v_get fx 0 1 inX0 k122 dX0_addCode_54 rfl rfl (by decide) rfl rfl rfl ?_
          refine v_iconst fx dX0_addCode_57 rfl ?_
          refine v_iadd fx (c1 + 1) dX0_addCode_58 (by rfl) rfl ?_
          refine v_put fx 0 1 [(h0, ob 0 [.ref ba, .int (iI (c1 + 1)), .int pl, .int tu]), (ba, aB g n f1)] inX0 tyX0_ok nmX0 k122 dX0_addCode_59 rfl rfl (by decide) rfl rfl rfl rfl (nl rfl) rfl rfl ?_
          refine v_iload_n fx 2 dX0_addCode_62 rfl rfl ?_
          refine v_iconst fx dX0_addCode_63 rfl ?_
          refine v_ishr fx (iI (b / 2)) dX0_addCode_64 (iI_shr (k := 1) (by omega) _ (by decide)) rfl ?_
          refine v_istore_n fx [(2, .int (iI (b / 2))), (0, .ref h0), (1, .int (iI x))] dX0_addCode_65 (by decide) rfl rfl ?_
          refine v_goto fx 13 dX0_addCode_66 (by decide) ?_
          refine v_lv [1, 2, 0] [(0, .ref h0), (1, .int (iI x)), (2, .int (iI (b / 2)))] rfl ?_
          exact ihL13 i1 (b / 2) (c1 + 1) f1 (by assumption) (by omega) (by omega) (by omega) (by omega)
        ·
          refine v_aload_n fx 0 dX0_addCode_23 rfl rfl ?_
          refine v_get fx 0 0 inX0 k121 dX0_addCode_24 rfl rfl (by decide) rfl rfl rfl ?_
          refine v_aload_n fx 0 dX0_addCode_27 rfl rfl ?_
          refine v_get fx 0 1 inX0 k122 dX0_addCode_28 rfl rfl (by decide) rfl rfl rfl ?_
          refine v_iconst fx dX0_addCode_31 rfl ?_
          refine v_ishr fx (iI (c1 / 8)) dX0_addCode_32 (iI_shr (k := 3) (by omega) _ (by decide)) rfl ?_
          refine v_dup2 fx dX0_addCode_33 rfl rfl rfl ?_
          refine v_bald fx 1 dX0_addCode_34 rfl (by omega) (by omega) rfl ?_
          refine v_iconst fx dX0_addCode_35 rfl ?_
          refine v_aload_n fx 0 dX0_addCode_36 rfl rfl ?_
          refine v_get fx 0 1 inX0 k122 dX0_addCode_37 rfl rfl (by decide) rfl rfl rfl ?_
          refine v_bipush fx dX0_addCode_40 (by decide +kernel) rfl ?_
          refine v_iand fx (iI (c1 % 8)) dX0_addCode_42 (iI_and (by omega) 3 (by decide +kernel)) rfl ?_
          refine v_aload_n fx 0 dX0_addCode_43 rfl rfl ?_
          refine v_get fx 0 3 inX0 k124 dX0_addCode_44 rfl rfl (by decide) rfl rfl rfl ?_
          obtain ⟨t_9, et_9⟩ : ∃ x9 : Int32, (iI (c1 % 8)) ^^^ tu = x9 := ⟨_, rfl⟩
          refine v_ixor fx t_9 dX0_addCode_47 et_9 rfl ?_
          obtain ⟨t_10, et_10⟩ : ∃ x9 : Int32, (iI 1) <<< (t_9 &&& 31) = x9 := ⟨_, rfl⟩
          refine v_ishl fx t_10 dX0_addCode_48 et_10 rfl ?_
          obtain ⟨t_11, et_11⟩ : ∃ x9 : Int32, (f1 (c1 / 8).toNat) ||| t_10 = x9 := ⟨_, rfl⟩
          refine v_ior fx t_11 dX0_addCode_49 et_11 rfl ?_
          refine v_i2b fx ((t_11).toInt8.toInt32) dX0_addCode_50 rfl rfl ?_
          obtain ⟨f_12, ef_12⟩ : ∃ f9 : Nat → Int32, upd f1 (c1 / 8).toNat (vp_nar .byte ((t_11).toInt8.toInt32)) = f9 := ⟨_, rfl⟩
          refine v_bast fx 1 f_12 [(h0, ob 0 [.ref ba, .int (iI c1), .int pl, .int tu]), (ba, aB g n f_12)] dX0_addCode_51 rfl (by omega) (by omega) ef_12 rfl rfl ?_
          refine v_aload_n fx 0 dX0_addCode_52 rfl rfl ?_
          refine v_dup fx dX0_addCode_53 rfl rfl ?_
          refine v_get fx 0 1 inX0 k122 dX0_addCode_54 rfl rfl (by decide) rfl rfl rfl ?_
          refine v_iconst fx dX0_addCode_57 rfl ?_
          refine v_iadd fx (c1 + 1) dX0_addCode_58 (by rfl) rfl ?_
          refine v_put fx 0 1 [(h0, ob 0 [.ref ba, .int (iI (c1 + 1)), .int pl, .int tu]), (ba, aB g n f_12)] inX0 tyX0_ok nmX0 k122 dX0_addCode_59 rfl rfl (by decide) rfl rfl rfl rfl (nl rfl) rfl rfl ?_
          refine v_iload_n fx 2 dX0_addCode_62 rfl rfl ?_
          refine v_iconst fx dX0_addCode_63 rfl ?_
          refine v_ishr fx (iI (b / 2)) dX0_addCode_64 (iI_shr (k := 1) (by omega) _ (by decide)) rfl ?_
          refine v_istore_n fx [(2, .int (iI (b / 2))), (0, .ref h0), (1, .int (iI x))] dX0_addCode_65 (by decide) rfl rfl ?_
          refine v_goto fx 13 dX0_addCode_66 (by decide) ?_
          refine v_lv [1, 2, 0] [(0, .ref h0), (1, .int (iI x)), (2, .int (iI (b / 2)))] rfl ?_
          exact ihL13 i1 (b / 2) (c1 + 1) f_12 (by assumption) (by omega) (by omega) (by omega) (by omega)
  refine v_lv [1, 2, 0] [(0, .ref h0), (1, .int (iI x)), (2, .int (iI (t_1 / 2)))] rfl ?_
  exact L13 _ j (t_1 / 2) c f (by unfold hb2; omega) (by omega) (by omega) (by omega) (Nat.lt_succ_self _)
theorem dX0_fillLastByte_0 : decode cX0_fillLastByte 0 = .ok (.aload_n 0, 1) := by decide +kernel
theorem dX0_fillLastByte_1 : decode cX0_fillLastByte 1 = .ok (.bipush 8, 2) := by decide +kernel
theorem dX0_fillLastByte_3 : decode cX0_fillLastByte 3 = .ok (.aload_n 0, 1) := by decide +kernel
theorem dX0_fillLastByte_4 : decode cX0_fillLastByte 4 = .ok (.invokevirtual 19, 3) := by decide +kernel
theorem dX0_fillLastByte_7 : decode cX0_fillLastByte 7 = .ok (.imul, 1) := by decide +kernel
theorem dX0_fillLastByte_8 : decode cX0_fillLastByte 8 = .ok (.putfield 29, 3) := by decide +kernel
theorem dX0_fillLastByte_11 : decode cX0_fillLastByte 11 = .ok (.return_, 1) := by decide +kernel
abbrev po_c_X0_fillLastByte (g : GG) (h0 : Nat) (ba : Nat) (c : Int) (pl : Int32) (tu : Int32) : Option Value → va_W → Prop := fun v8 w8 => v8 = none ∧ w8 = [(h0, ob 0 [.ref ba, .int (iI (8 * ((c + 7) / 8))), .int pl, .int tu])]
set_option maxHeartbeats 4000000 in
set_option maxRecDepth 100000 in
theorem c_X0_fillLastByte (l : Launch) (g : GG) (h0 : Nat) (ba : Nat) (c : Int) (pl : Int32) (tu : Int32) (hp0 : 0 ≤ c ∧ c < 100000000) : Ct l g yX0_fillLastByte (wM yX0_fillLastByte cX0_fillLastByte 1 none) (rmD 1 0 0) [.ref h0] [(h0, ob 0 [.ref ba, .int (iI c), .int pl, .int tu])] (po_c_X0_fillLastByte g h0 ba c pl tu) := by
  refine Ct_of (by decide +kernel) (Nat.le_of_ble_eq_true rfl) ?_
  intro p9 e9 s9 m9 ag9 bl9 mt9 c9 A9 fx hr hnm
  refine v_aload_n fx 0 dX0_fillLastByte_0 rfl rfl ?_
  refine v_bipush fx dX0_fillLastByte_1 (by decide +kernel) rfl ?_
  refine v_aload_n fx 0 dX0_fillLastByte_3 rfl rfl ?_
  refine v_callV (As := []) (rest := [.int (iI 8), .ref h0]) fx [0] [] [(h0, ob 0 [.ref ba, .int (iI c), .int pl, .int tu])] [] 0 0 (c_X0_byteCount l g h0 ba c pl tu (by first | omega | decide | assumption)) dX0_fillLastByte_4 k362 k363 k364 k50 k365 ykX0_byteCount rfl rfl rfl rfl rfl rfl rfl rfl (nl rfl) ⟨nl rfl, nl rfl⟩ ⟨(nl rfl), (nl rfl)⟩ rfl (fun v9 w9 hu => ?_)
  obtain ⟨rfl, rfl⟩ := hu
  refine v_is (wn := [(h0, ob 0 [.ref ba, .int (iI c), .int pl, .int tu])]) (cn := 0) (sn := 0) (sn2 := [.int (iI ((c + 7) / 8)), .int (iI 8), .ref h0]) rfl rfl rfl rfl ?_
  refine v_imul fx (8 * ((c + 7) / 8)) dX0_fillLastByte_7 (by rfl) rfl ?_
  refine v_put fx 0 1 [(h0, ob 0 [.ref ba, .int (iI (8 * ((c + 7) / 8))), .int pl, .int tu])] inX0 tyX0_ok nmX0 k122 dX0_fillLastByte_8 rfl rfl (by decide) rfl rfl rfl rfl (nl rfl) rfl rfl ?_
  exact v_vret fx [(h0, ob 0 [.ref ba, .int (iI (8 * ((c + 7) / 8))), .int pl, .int tu])] [0] hr dX0_fillLastByte_11 rfl rfl (nl rfl) (nl rfl) ⟨rfl, rfl⟩
theorem dX0_byteOf_0 : decode cX0_byteOf 0 = .ok (.iload_n 1, 1) := by decide +kernel
theorem dX0_byteOf_1 : decode cX0_byteOf 1 = .ok (.ifCond .lt 24, 3) := by decide +kernel
theorem dX0_byteOf_4 : decode cX0_byteOf 4 = .ok (.iload_n 1, 1) := by decide +kernel
theorem dX0_byteOf_5 : decode cX0_byteOf 5 = .ok (.aload_n 0, 1) := by decide +kernel
theorem dX0_byteOf_6 : decode cX0_byteOf 6 = .ok (.invokevirtual 19, 3) := by decide +kernel
theorem dX0_byteOf_9 : decode cX0_byteOf 9 = .ok (.if_icmp .ge 16, 3) := by decide +kernel
theorem dX0_byteOf_25 : decode cX0_byteOf 25 = .ok (.iconst (-1), 1) := by decide +kernel
theorem dX0_byteOf_26 : decode cX0_byteOf 26 = .ok (.ireturn, 1) := by decide +kernel
abbrev po_c_X0_byteOf_none (g : GG) (h0 : Nat) (ba : Nat) (x : Int) (pl : Int32) (tu : Int32) : Option Value → va_W → Prop := fun v8 w8 => v8 = some (.int (iI (-1))) ∧ w8 = [(h0, ob 0 [.ref ba, .int (iI 0), .int pl, .int tu])]
set_option maxHeartbeats 4000000 in
set_option maxRecDepth 100000 in
theorem c_X0_byteOf_none (l : Launch) (g : GG) (h0 : Nat) (ba : Nat) (x : Int) (pl : Int32) (tu : Int32) (hp0 : -2147483648 ≤ x ∧ x < 2147483648) : Ct l g yX0_byteOf (wM yX0_byteOf cX0_byteOf 2 (some .int)) (rmD 1 0 0) [.ref h0, .int (iI x)] [(h0, ob 0 [.ref ba, .int (iI 0), .int pl, .int tu])] (po_c_X0_byteOf_none g h0 ba x pl tu) := by
  refine Ct_of (by decide +kernel) (Nat.le_of_ble_eq_true rfl) ?_
  intro p9 e9 s9 m9 ag9 bl9 mt9 c9 A9 fx hr hnm
  refine v_iload_n fx 1 dX0_byteOf_0 rfl rfl ?_
  refine v_if_lt fx 25 dX0_byteOf_1 (by decide) rfl (by omega) (fun h_1 => ?_) (fun h_1 => ?_)
  ·
    refine v_iconst fx dX0_byteOf_25 rfl ?_
    exact v_iret fx [(h0, ob 0 [.ref ba, .int (iI 0), .int pl, .int tu])] [0] hr dX0_byteOf_26 rfl rfl (nl rfl) (nl rfl) ⟨rfl, rfl⟩
  ·
    refine v_iload_n fx 1 dX0_byteOf_4 rfl rfl ?_
    refine v_aload_n fx 0 dX0_byteOf_5 rfl rfl ?_
    refine v_callV (As := []) (rest := [.int (iI x)]) fx [0] [] [(h0, ob 0 [.ref ba, .int (iI 0), .int pl, .int tu])] [] 0 0 (c_X0_byteCount l g h0 ba 0 pl tu (by first | omega | decide | assumption)) dX0_byteOf_6 k362 k363 k364 k50 k365 ykX0_byteCount rfl rfl rfl rfl rfl rfl rfl rfl (nl rfl) ⟨nl rfl, nl rfl⟩ ⟨(nl rfl), (nl rfl)⟩ rfl (fun v9 w9 hu => ?_)
    obtain ⟨rfl, rfl⟩ := hu
    refine v_is (wn := [(h0, ob 0 [.ref ba, .int (iI 0), .int pl, .int tu])]) (cn := 0) (sn := 0) (sn2 := [.int (iI ((0 + 7) / 8)), .int (iI x)]) rfl rfl rfl rfl ?_
    refine v_icmp_ge fx 25 dX0_byteOf_9 (by decide) rfl (by omega) (by omega) (fun h_2 => ?_) (fun h0 => absurd h0 (by omega))
    refine v_iconst fx dX0_byteOf_25 rfl ?_
    exact v_iret fx [(h0, ob 0 [.ref ba, .int (iI 0), .int pl, .int tu])] [0] hr dX0_byteOf_26 rfl rfl (nl rfl) (nl rfl) ⟨rfl, rfl⟩
theorem dX0_setLowestFirst_0 : decode cX0_setLowestFirst 0 = .ok (.aload_n 0, 1) := by decide +kernel
theorem dX0_setLowestFirst_1 : decode cX0_setLowestFirst 1 = .ok (.iload_n 1, 1) := by decide +kernel
theorem dX0_setLowestFirst_2 : decode cX0_setLowestFirst 2 = .ok (.ifCond .eq 7, 3) := by decide +kernel
theorem dX0_setLowestFirst_5 : decode cX0_setLowestFirst 5 = .ok (.iconst 0, 1) := by decide +kernel
theorem dX0_setLowestFirst_6 : decode cX0_setLowestFirst 6 = .ok (.goto 5, 3) := by decide +kernel
theorem dX0_setLowestFirst_9 : decode cX0_setLowestFirst 9 = .ok (.bipush 7, 2) := by decide +kernel
theorem dX0_setLowestFirst_11 : decode cX0_setLowestFirst 11 = .ok (.putfield 15, 3) := by decide +kernel
theorem dX0_setLowestFirst_14 : decode cX0_setLowestFirst 14 = .ok (.return_, 1) := by decide +kernel
abbrev po_c_X0_setLowestFirst (g : GG) (h0 : Nat) (ba : Nat) (c : Int) (pl : Int32) (tu : Int32) (x : Int) : Option Value → va_W → Prop := fun v8 w8 => ∃ t2 : Int, v8 = none ∧ w8 = [(h0, ob 0 [.ref ba, .int (iI c), .int pl, .int (iI t2)])] ∧ (t2 = 7 - 7 * x)
set_option maxHeartbeats 4000000 in
set_option maxRecDepth 100000 in
theorem c_X0_setLowestFirst (l : Launch) (g : GG) (h0 : Nat) (ba : Nat) (c : Int) (pl : Int32) (tu : Int32) (x : Int) (hp0 : 0 ≤ x ∧ x ≤ 1) : Ct l g yX0_setLowestFirst (wM yX0_setLowestFirst cX0_setLowestFirst 2 none) (rmD 0 0 0) [.ref h0, .int (iI x)] [(h0, ob 0 [.ref ba, .int (iI c), .int pl, .int tu])] (po_c_X0_setLowestFirst g h0 ba c pl tu x) := by
  refine Ct_of (by decide +kernel) (Nat.le_of_ble_eq_true rfl) ?_
  intro p9 e9 s9 m9 ag9 bl9 mt9 c9 A9 fx hr hnm
  refine v_aload_n fx 0 dX0_setLowestFirst_0 rfl rfl ?_
  refine v_iload_n fx 1 dX0_setLowestFirst_1 rfl rfl ?_
  refine v_if_eq fx 9 dX0_setLowestFirst_2 (by decide) rfl (by omega) (fun h_1 => ?_) (fun h_1 => ?_)
  ·
    refine v_bipush fx dX0_setLowestFirst_9 (by decide +kernel) rfl ?_
    refine v_put fx 0 3 [(h0, ob 0 [.ref ba, .int (iI c), .int pl, .int (iI 7)])] inX0 tyX0_ok nmX0 k124 dX0_setLowestFirst_11 rfl rfl (by decide) rfl rfl rfl rfl (nl rfl) rfl rfl ?_
    exact v_vret fx [(h0, ob 0 [.ref ba, .int (iI c), .int pl, .int (iI 7)])] [0] hr dX0_setLowestFirst_14 rfl rfl (nl rfl) (nl rfl) ⟨7, rfl, rfl, (by first | omega | rfl | assumption)⟩
  ·
    refine v_iconst fx dX0_setLowestFirst_5 rfl ?_
    refine v_goto fx 11 dX0_setLowestFirst_6 (by decide) ?_
    refine v_put fx 0 3 [(h0, ob 0 [.ref ba, .int (iI c), .int pl, .int (iI 0)])] inX0 tyX0_ok nmX0 k124 dX0_setLowestFirst_11 rfl rfl (by decide) rfl rfl rfl rfl (nl rfl) rfl rfl ?_
    exact v_vret fx [(h0, ob 0 [.ref ba, .int (iI c), .int pl, .int (iI 0)])] [0] hr dX0_setLowestFirst_14 rfl rfl (nl rfl) (nl rfl) ⟨0, rfl, rfl, (by first | omega | rfl | assumption)⟩
