/-! SAMPLES, in general -/
theorem iI_shl5 {i : Int} (h : 0 ≤ i ∧ i < 1000000) : iI i <<< (iI 5 &&& 31) = iI (32 * i) := by
  obtain ⟨n, rfl⟩ := Int.eq_ofNat_of_zero_le h.1
  have h1 := pk_shlN (n := n) (iI 5 &&& 31) 5 (by decide) (by omega)
  rw [iI_nI, iI_nI] at h1
  rw [h1]
  congr 1
  omega
theorem dJ7_fill_53178_0 : decode cJ7_fill_53178 0 = .ok (.iconst 0, 1) := by decide +kernel
theorem dJ7_fill_53178_1 : decode cJ7_fill_53178 1 = .ok (.istore_n 2, 1) := by decide +kernel
theorem dJ7_fill_53178_2 : decode cJ7_fill_53178 2 = .ok (.aload_n 0, 1) := by decide +kernel
theorem dJ7_fill_53178_3 : decode cJ7_fill_53178 3 = .ok (.arraylength, 1) := by decide +kernel
theorem dJ7_fill_53178_4 : decode cJ7_fill_53178 4 = .ok (.istore_n 3, 1) := by decide +kernel
theorem dJ7_fill_53178_5 : decode cJ7_fill_53178 5 = .ok (.iload_n 2, 1) := by decide +kernel
theorem dJ7_fill_53178_6 : decode cJ7_fill_53178 6 = .ok (.iload_n 3, 1) := by decide +kernel
theorem dJ7_fill_53178_7 : decode cJ7_fill_53178 7 = .ok (.if_icmp .ge 13, 3) := by decide +kernel
theorem dJ7_fill_53178_10 : decode cJ7_fill_53178 10 = .ok (.aload_n 0, 1) := by decide +kernel
theorem dJ7_fill_53178_11 : decode cJ7_fill_53178 11 = .ok (.iload_n 2, 1) := by decide +kernel
theorem dJ7_fill_53178_12 : decode cJ7_fill_53178 12 = .ok (.iload_n 1, 1) := by decide +kernel
theorem dJ7_fill_53178_13 : decode cJ7_fill_53178 13 = .ok (.iastore, 1) := by decide +kernel
theorem dJ7_fill_53178_14 : decode cJ7_fill_53178 14 = .ok (.iinc 2 1, 3) := by decide +kernel
theorem dJ7_fill_53178_17 : decode cJ7_fill_53178 17 = .ok (.goto (-12), 3) := by decide +kernel
theorem dJ7_fill_53178_20 : decode cJ7_fill_53178 20 = .ok (.return_, 1) := by decide +kernel
abbrev po_c_J7_fill_53178 (g : GG) (h1 : Nat) (n : Nat) (f : Nat → Int32) (v : Int32) : Option Value → va_W → Prop := fun v8 w8 => ∃ f2 : Nat → Int32, v8 = none ∧ w8 = [(h1, aI g n f2)]
set_option maxHeartbeats 4000000 in
set_option maxRecDepth 100000 in
/-- Arrays.fill of ints -/
theorem c_J7_fill_53178 (l : Launch) (g : GG) (h1 : Nat) (n : Nat) (f : Nat → Int32) (v : Int32) (hp0 : n < 100000000) : Ct l g yJ7_fill_53178 (wM yJ7_fill_53178 cJ7_fill_53178 4 none) (rmD 0 0 0) [.ref h1, .int v] [(h1, aI g n f)] (po_c_J7_fill_53178 g h1 n f v) := by
  refine Ct_of (by decide +kernel) (Nat.le_of_ble_eq_true rfl) ?_
  intro p9 e9 s9 m9 ag9 bl9 mt9 c9 A9 fx hr hnm
  refine v_iconst fx dJ7_fill_53178_0 rfl ?_
  refine v_istore_n fx [(2, .int (iI 0)), (0, .ref h1), (1, .int v)] dJ7_fill_53178_1 (by decide) rfl rfl ?_
  refine v_aload_n fx 1 dJ7_fill_53178_2 rfl rfl ?_
  refine v_alen fx 0 0 (n : Int) dJ7_fill_53178_3 rfl rfl rfl rfl ?_
  refine v_istore_n fx [(3, .int (iI (n : Int))), (2, .int (iI 0)), (0, .ref h1), (1, .int v)] dJ7_fill_53178_4 (by decide) rfl rfl ?_
  have L5 : ∀ (N : Nat) (i : Int) (f1 : Nat → Int32), (0 ≤ i ∧ i ≤ (n : Int)) → (((n : Int) - i).toNat) < N → V p9 l e9 (rmD 0 0 0) s9 m9 ag9 bl9 mt9 c9 4 g A9 (MQ bl9 (cQ g (po_c_J7_fill_53178 g h1 n f v) A9) ag9 s9 0 0 A9) [(h1, aI g n f1)] 0 0 [(0, .ref h1), (1, .int v), (2, .int (iI i)), (3, .int (iI (n : Int)))] 5 [] := by
    intro N
    induction N with
    | zero => intro i f1 hi5_0 hN; exact absurd hN (Nat.not_lt_zero _)
    | succ N ihL5 =>
      intro i f1 hi5_0 hN5
      refine v_iload_n fx 2 dJ7_fill_53178_5 rfl rfl ?_
      refine v_iload_n fx 3 dJ7_fill_53178_6 rfl rfl ?_
      refine v_icmp_ge fx 20 dJ7_fill_53178_7 (by decide) rfl (by omega) (by omega) (fun h_1 => ?_) (fun h_1 => ?_)
      ·
        exact v_vret fx [(h1, aI g n f1)] [0] hr dJ7_fill_53178_20 rfl rfl (nl rfl) (nl rfl) ⟨f1, rfl, rfl⟩
      ·
        refine v_aload_n fx 0 dJ7_fill_53178_10 rfl rfl ?_
        refine v_iload_n fx 2 dJ7_fill_53178_11 rfl rfl ?_
        refine v_iload_n fx 1 dJ7_fill_53178_12 rfl rfl ?_
        obtain ⟨f_2, ef_2⟩ : ∃ f9 : Nat → Int32, upd f1 (i).toNat v = f9 := ⟨_, rfl⟩
        refine v_iast fx 0 f_2 [(h1, aI g n f_2)] dJ7_fill_53178_13 rfl (by omega) (by omega) ef_2 rfl rfl ?_
        refine v_iinc fx 2 (i + 1) [(2, .int (iI (i + 1))), (0, .ref h1), (1, .int v), (3, .int (iI (n : Int)))] dJ7_fill_53178_14 rfl (by omega) (by decide) rfl rfl ?_
        refine v_goto fx 5 dJ7_fill_53178_17 (by decide) ?_
        refine v_lv [1, 2, 0, 3] [(0, .ref h1), (1, .int v), (2, .int (iI (i + 1))), (3, .int (iI (n : Int)))] rfl ?_
        exact ihL5 (i + 1) f_2 (by omega) (by omega)
  refine v_lv [2, 3, 1, 0] [(0, .ref h1), (1, .int v), (2, .int (iI 0)), (3, .int (iI (n : Int)))] rfl ?_
  exact L5 _ 0 f (by omega) (Nat.lt_succ_self _)
theorem dX4_set_0 : decode cX4_set 0 = .ok (.iload_n 1, 1) := by decide +kernel
theorem dX4_set_1 : decode cX4_set 1 = .ok (.iconst 5, 1) := by decide +kernel
theorem dX4_set_2 : decode cX4_set 2 = .ok (.ishr, 1) := by decide +kernel
theorem dX4_set_3 : decode cX4_set 3 = .ok (.istore_n 3, 1) := by decide +kernel
theorem dX4_set_4 : decode cX4_set 4 = .ok (.iload_n 3, 1) := by decide +kernel
theorem dX4_set_5 : decode cX4_set 5 = .ok (.ifCond .lt 12, 3) := by decide +kernel
theorem dX4_set_8 : decode cX4_set 8 = .ok (.iload_n 3, 1) := by decide +kernel
theorem dX4_set_9 : decode cX4_set 9 = .ok (.aload_n 0, 1) := by decide +kernel
theorem dX4_set_10 : decode cX4_set 10 = .ok (.getfield 13, 3) := by decide +kernel
theorem dX4_set_13 : decode cX4_set 13 = .ok (.arraylength, 1) := by decide +kernel
theorem dX4_set_14 : decode cX4_set 14 = .ok (.if_icmp .lt 4, 3) := by decide +kernel
theorem dX4_set_17 : decode cX4_set 17 = .ok (.return_, 1) := by decide +kernel
theorem dX4_set_18 : decode cX4_set 18 = .ok (.iconst 1, 1) := by decide +kernel
theorem dX4_set_19 : decode cX4_set 19 = .ok (.iload_n 1, 1) := by decide +kernel
theorem dX4_set_20 : decode cX4_set 20 = .ok (.bipush 31, 2) := by decide +kernel
theorem dX4_set_22 : decode cX4_set 22 = .ok (.iand, 1) := by decide +kernel
theorem dX4_set_23 : decode cX4_set 23 = .ok (.ishl, 1) := by decide +kernel
theorem dX4_set_24 : decode cX4_set 24 = .ok (.istore 4, 2) := by decide +kernel
theorem dX4_set_26 : decode cX4_set 26 = .ok (.aload_n 0, 1) := by decide +kernel
theorem dX4_set_27 : decode cX4_set 27 = .ok (.getfield 13, 3) := by decide +kernel
theorem dX4_set_30 : decode cX4_set 30 = .ok (.iload_n 3, 1) := by decide +kernel
theorem dX4_set_31 : decode cX4_set 31 = .ok (.iload_n 2, 1) := by decide +kernel
theorem dX4_set_32 : decode cX4_set 32 = .ok (.ifCond .eq 15, 3) := by decide +kernel
theorem dX4_set_35 : decode cX4_set 35 = .ok (.aload_n 0, 1) := by decide +kernel
theorem dX4_set_36 : decode cX4_set 36 = .ok (.getfield 13, 3) := by decide +kernel
theorem dX4_set_39 : decode cX4_set 39 = .ok (.iload_n 3, 1) := by decide +kernel
theorem dX4_set_40 : decode cX4_set 40 = .ok (.iaload, 1) := by decide +kernel
theorem dX4_set_41 : decode cX4_set 41 = .ok (.iload 4, 2) := by decide +kernel
theorem dX4_set_43 : decode cX4_set 43 = .ok (.ior, 1) := by decide +kernel
theorem dX4_set_44 : decode cX4_set 44 = .ok (.goto 14, 3) := by decide +kernel
theorem dX4_set_47 : decode cX4_set 47 = .ok (.aload_n 0, 1) := by decide +kernel
theorem dX4_set_48 : decode cX4_set 48 = .ok (.getfield 13, 3) := by decide +kernel
theorem dX4_set_51 : decode cX4_set 51 = .ok (.iload_n 3, 1) := by decide +kernel
theorem dX4_set_52 : decode cX4_set 52 = .ok (.iaload, 1) := by decide +kernel
theorem dX4_set_53 : decode cX4_set 53 = .ok (.iload 4, 2) := by decide +kernel
theorem dX4_set_55 : decode cX4_set 55 = .ok (.iconst (-1), 1) := by decide +kernel
theorem dX4_set_56 : decode cX4_set 56 = .ok (.ixor, 1) := by decide +kernel
theorem dX4_set_57 : decode cX4_set 57 = .ok (.iand, 1) := by decide +kernel
theorem dX4_set_58 : decode cX4_set 58 = .ok (.iastore, 1) := by decide +kernel
theorem dX4_set_59 : decode cX4_set 59 = .ok (.return_, 1) := by decide +kernel
abbrev po_c_X4_set (g : GG) (h0 : Nat) (h1 : Nat) (n : Nat) (f : Nat → Int32) (sw : Int32) (x : Int) (on : Int) : Option Value → va_W → Prop := fun v8 w8 => ∃ f2 : Nat → Int32, v8 = none ∧ w8 = [(h0, ob 4 [.int sw, .ref h1]), (h1, aI g n f2)]
set_option maxHeartbeats 4000000 in
set_option maxRecDepth 100000 in
/-- Samples.set -/
theorem c_X4_set (l : Launch) (g : GG) (h0 : Nat) (h1 : Nat) (n : Nat) (f : Nat → Int32) (sw : Int32) (x : Int) (on : Int) (hp0 : 0 ≤ x ∧ x < 3000) (hp1 : 0 ≤ on ∧ on ≤ 1) (hp2 : n < 1000000) : Ct l g yX4_set (wM yX4_set cX4_set 5 none) (rmD 0 0 0) [.ref h0, .int (iI x), .int (iI on)] [(h0, ob 4 [.int sw, .ref h1]), (h1, aI g n f)] (po_c_X4_set g h0 h1 n f sw x on) := by
  refine Ct_of (by decide +kernel) (Nat.le_of_ble_eq_true rfl) ?_
  intro p9 e9 s9 m9 ag9 bl9 mt9 c9 A9 fx hr hnm
  refine v_iload_n fx 1 dX4_set_0 rfl rfl ?_
  refine v_iconst fx dX4_set_1 rfl ?_
  refine v_ishr fx (iI (x / 32)) dX4_set_2 (iI_shr (k := 5) (by omega) _ (by decide)) rfl ?_
  refine v_istore_n fx [(3, .int (iI (x / 32))), (0, .ref h0), (1, .int (iI x)), (2, .int (iI on))] dX4_set_3 (by decide) rfl rfl ?_
  refine v_iload_n fx 0 dX4_set_4 rfl rfl ?_
  refine v_if_lt fx 17 dX4_set_5 (by decide) rfl (by omega) (fun h_1 => ?_) (fun h_1 => ?_)
  ·
    exact v_vret fx [(h0, ob 4 [.int sw, .ref h1]), (h1, aI g n f)] [0, 1] hr dX4_set_17 rfl rfl (nl rfl) (nl rfl) ⟨f, rfl, rfl⟩
  ·
    refine v_iload_n fx 0 dX4_set_8 rfl rfl ?_
    refine v_aload_n fx 1 dX4_set_9 rfl rfl ?_
    refine v_get fx 0 1 inX4 k92 dX4_set_10 rfl rfl (by decide) rfl rfl rfl ?_
    refine v_alen fx 1 0 (n : Int) dX4_set_13 rfl rfl rfl rfl ?_
    refine v_icmp_lt fx 18 dX4_set_14 (by decide) rfl (by omega) (by omega) (fun h_2 => ?_) (fun h_2 => ?_)
    ·
      refine v_iconst fx dX4_set_18 rfl ?_
      refine v_iload_n fx 2 dX4_set_19 rfl rfl ?_
      refine v_bipush fx dX4_set_20 (by decide +kernel) rfl ?_
      refine v_iand fx (iI (x % 32)) dX4_set_22 (iI_and (by omega) 5 (by decide +kernel)) rfl ?_
      obtain ⟨t_3, et_3⟩ : ∃ x9 : Int32, (iI 1) <<< ((iI (x % 32)) &&& 31) = x9 := ⟨_, rfl⟩
      refine v_ishl fx t_3 dX4_set_23 et_3 rfl ?_
      refine v_istore fx [(4, .int t_3), (3, .int (iI (x / 32))), (0, .ref h0), (1, .int (iI x)), (2, .int (iI on))] dX4_set_24 (by decide) rfl rfl ?_
      refine v_aload_n fx 2 dX4_set_26 rfl rfl ?_
      refine v_get fx 0 1 inX4 k92 dX4_set_27 rfl rfl (by decide) rfl rfl rfl ?_
      refine v_iload_n fx 1 dX4_set_30 rfl rfl ?_
      refine v_iload_n fx 4 dX4_set_31 rfl rfl ?_
      refine v_if_eq fx 47 dX4_set_32 (by decide) rfl (by omega) (fun h_4 => ?_) (fun h_4 => ?_)
      ·
        refine v_aload_n fx 2 dX4_set_47 rfl rfl ?_
        refine v_get fx 0 1 inX4 k92 dX4_set_48 rfl rfl (by decide) rfl rfl rfl ?_
        refine v_iload_n fx 1 dX4_set_51 rfl rfl ?_
        refine v_iald fx 1 dX4_set_52 rfl (by omega) (by omega) rfl ?_
        refine v_iload fx 0 dX4_set_53 rfl rfl ?_
        refine v_iconst fx dX4_set_55 rfl ?_
        obtain ⟨t_5, et_5⟩ : ∃ x9 : Int32, t_3 ^^^ (iI (-1)) = x9 := ⟨_, rfl⟩
        refine v_ixor fx t_5 dX4_set_56 et_5 rfl ?_
        obtain ⟨t_6, et_6⟩ : ∃ x9 : Int32, (f (x / 32).toNat) &&& t_5 = x9 := ⟨_, rfl⟩
        refine v_iand fx t_6 dX4_set_57 et_6 rfl ?_
        obtain ⟨f_7, ef_7⟩ : ∃ f9 : Nat → Int32, upd f (x / 32).toNat t_6 = f9 := ⟨_, rfl⟩
        refine v_iast fx 1 f_7 [(h0, ob 4 [.int sw, .ref h1]), (h1, aI g n f_7)] dX4_set_58 rfl (by omega) (by omega) ef_7 rfl rfl ?_
        exact v_vret fx [(h0, ob 4 [.int sw, .ref h1]), (h1, aI g n f_7)] [0, 1] hr dX4_set_59 rfl rfl (nl rfl) (nl rfl) ⟨f_7, rfl, rfl⟩
      ·
        refine v_aload_n fx 2 dX4_set_35 rfl rfl ?_
        refine v_get fx 0 1 inX4 k92 dX4_set_36 rfl rfl (by decide) rfl rfl rfl ?_
        refine v_iload_n fx 1 dX4_set_39 rfl rfl ?_
        refine v_iald fx 1 dX4_set_40 rfl (by omega) (by omega) rfl ?_
        refine v_iload fx 0 dX4_set_41 rfl rfl ?_
        obtain ⟨t_8, et_8⟩ : ∃ x9 : Int32, (f (x / 32).toNat) ||| t_3 = x9 := ⟨_, rfl⟩
        refine v_ior fx t_8 dX4_set_43 et_8 rfl ?_
        refine v_goto fx 58 dX4_set_44 (by decide) ?_
        obtain ⟨f_9, ef_9⟩ : ∃ f9 : Nat → Int32, upd f (x / 32).toNat t_8 = f9 := ⟨_, rfl⟩
        refine v_iast fx 1 f_9 [(h0, ob 4 [.int sw, .ref h1]), (h1, aI g n f_9)] dX4_set_58 rfl (by omega) (by omega) ef_9 rfl rfl ?_
        exact v_vret fx [(h0, ob 4 [.int sw, .ref h1]), (h1, aI g n f_9)] [0, 1] hr dX4_set_59 rfl rfl (nl rfl) (nl rfl) ⟨f_9, rfl, rfl⟩
    ·
      exact v_vret fx [(h0, ob 4 [.int sw, .ref h1]), (h1, aI g n f)] [0, 1] hr dX4_set_17 rfl rfl (nl rfl) (nl rfl) ⟨f, rfl, rfl⟩
theorem dX4_whiten_0 : decode cX4_whiten 0 = .ok (.aload_n 0, 1) := by decide +kernel
theorem dX4_whiten_1 : decode cX4_whiten 1 = .ok (.getfield 13, 3) := by decide +kernel
theorem dX4_whiten_4 : decode cX4_whiten 4 = .ok (.iconst 0, 1) := by decide +kernel
theorem dX4_whiten_5 : decode cX4_whiten 5 = .ok (.invokestatic 17, 3) := by decide +kernel
theorem dX4_whiten_8 : decode cX4_whiten 8 = .ok (.return_, 1) := by decide +kernel
abbrev po_c_X4_whiten (g : GG) (h0 : Nat) (h1 : Nat) (n : Nat) (f : Nat → Int32) (sw : Int32) : Option Value → va_W → Prop := fun v8 w8 => ∃ f2 : Nat → Int32, v8 = none ∧ w8 = [(h0, ob 4 [.int sw, .ref h1]), (h1, aI g n f2)]
set_option maxHeartbeats 4000000 in
set_option maxRecDepth 100000 in
/-- Samples.whiten -/
theorem c_X4_whiten (l : Launch) (g : GG) (h0 : Nat) (h1 : Nat) (n : Nat) (f : Nat → Int32) (sw : Int32) (hp0 : n < 1000000) : Ct l g yX4_whiten (wM yX4_whiten cX4_whiten 1 none) (rmD 1 0 0) [.ref h0] [(h0, ob 4 [.int sw, .ref h1]), (h1, aI g n f)] (po_c_X4_whiten g h0 h1 n f sw) := by
  refine Ct_of (by decide +kernel) (Nat.le_of_ble_eq_true rfl) ?_
  intro p9 e9 s9 m9 ag9 bl9 mt9 c9 A9 fx hr hnm
  refine v_aload_n fx 0 dX4_whiten_0 rfl rfl ?_
  refine v_get fx 0 1 inX4 k92 dX4_whiten_1 rfl rfl (by decide) rfl rfl rfl ?_
  refine v_iconst fx dX4_whiten_4 rfl ?_
  refine v_callS (As := [.ref h1, .int (iI 0)]) (rest := []) fx [1] [0] [(h1, aI g n f)] [(h0, ob 4 [.int sw, .ref h1])] 2 (c_J7_fill_53178 l g h1 n f (iI 0) (by first | omega | decide | assumption)) dX4_whiten_5 k351 k352 k55 k353 ykJ7_fill_53178 rfl rfl rfl rfl rfl (nl rfl) ⟨nl rfl, nl rfl⟩ ⟨(nl rfl), (nl rfl)⟩ rfl (fun v9 w9 hu => ?_)
  obtain ⟨f2_1, rfl, rfl⟩ := hu
  refine v_is (wn := [(h0, ob 4 [.int sw, .ref h1]), (h1, aI g n f2_1)]) (cn := 0) (sn := 0) (sn2 := []) rfl rfl rfl rfl ?_
  exact v_vret fx [(h0, ob 4 [.int sw, .ref h1]), (h1, aI g n f2_1)] [0, 1] hr dX4_whiten_8 rfl rfl (nl rfl) (nl rfl) ⟨f2_1, rfl, rfl⟩
theorem dX4_addPlaces_0 : decode cX4_addPlaces 0 = .ok (.iconst 0, 1) := by decide +kernel
theorem dX4_addPlaces_1 : decode cX4_addPlaces 1 = .ok (.istore 4, 2) := by decide +kernel
theorem dX4_addPlaces_3 : decode cX4_addPlaces 3 = .ok (.iload 4, 2) := by decide +kernel
theorem dX4_addPlaces_5 : decode cX4_addPlaces 5 = .ok (.bipush 32, 2) := by decide +kernel
theorem dX4_addPlaces_7 : decode cX4_addPlaces 7 = .ok (.if_icmp .ge 38, 3) := by decide +kernel
theorem dX4_addPlaces_10 : decode cX4_addPlaces 10 = .ok (.iload_n 2, 1) := by decide +kernel
theorem dX4_addPlaces_11 : decode cX4_addPlaces 11 = .ok (.iload 4, 2) := by decide +kernel
theorem dX4_addPlaces_13 : decode cX4_addPlaces 13 = .ok (.iadd, 1) := by decide +kernel
theorem dX4_addPlaces_14 : decode cX4_addPlaces 14 = .ok (.aload_n 0, 1) := by decide +kernel
theorem dX4_addPlaces_15 : decode cX4_addPlaces 15 = .ok (.getfield 7, 3) := by decide +kernel
theorem dX4_addPlaces_18 : decode cX4_addPlaces 18 = .ok (.if_icmp .ge 27, 3) := by decide +kernel
theorem dX4_addPlaces_21 : decode cX4_addPlaces 21 = .ok (.iload_n 1, 1) := by decide +kernel
theorem dX4_addPlaces_22 : decode cX4_addPlaces 22 = .ok (.iload 4, 2) := by decide +kernel
theorem dX4_addPlaces_24 : decode cX4_addPlaces 24 = .ok (.ishr, 1) := by decide +kernel
theorem dX4_addPlaces_25 : decode cX4_addPlaces 25 = .ok (.iconst 1, 1) := by decide +kernel
theorem dX4_addPlaces_26 : decode cX4_addPlaces 26 = .ok (.iand, 1) := by decide +kernel
theorem dX4_addPlaces_27 : decode cX4_addPlaces 27 = .ok (.iconst 1, 1) := by decide +kernel
theorem dX4_addPlaces_28 : decode cX4_addPlaces 28 = .ok (.if_icmp .ne 11, 3) := by decide +kernel
theorem dX4_addPlaces_31 : decode cX4_addPlaces 31 = .ok (.aload_n 3, 1) := by decide +kernel
theorem dX4_addPlaces_32 : decode cX4_addPlaces 32 = .ok (.iload_n 2, 1) := by decide +kernel
theorem dX4_addPlaces_33 : decode cX4_addPlaces 33 = .ok (.iload 4, 2) := by decide +kernel
theorem dX4_addPlaces_35 : decode cX4_addPlaces 35 = .ok (.iadd, 1) := by decide +kernel
theorem dX4_addPlaces_36 : decode cX4_addPlaces 36 = .ok (.invokevirtual 27, 3) := by decide +kernel
theorem dX4_addPlaces_39 : decode cX4_addPlaces 39 = .ok (.iinc 4 1, 3) := by decide +kernel
theorem dX4_addPlaces_42 : decode cX4_addPlaces 42 = .ok (.goto (-39), 3) := by decide +kernel
theorem dX4_addPlaces_45 : decode cX4_addPlaces 45 = .ok (.return_, 1) := by decide +kernel
abbrev po_c_X4_addPlaces (g : GG) (h0 : Nat) (sa : Nat) (w : Int) (ls : Nat) (h1 : Nat) (it : Nat) (n : Nat) (c : Int) (F : Nat → Int) (fs : Nat → Int32) (fi : Nat → Int32) (ch : Int32) (st : Int) : Option Value → va_W → Nat → Nat → Prop := fun v8 w8 kc8 ks8 => ∃ i2 : Nat, ∃ n2 : Nat, ∃ s2 : Nat → Int32, ∃ f2 : Nat → Int32, ∃ e2 : Int, v8 = none ∧ w8 = [(h0, ob 4 [.int (iI w), .ref sa]), (ls, ob 2 [.ref h1, .ref i2, .int (iI c)]), (h1, aI g 27 s2), (i2, aI g n2 f2)] ∧ (LB c (fU F (c.toNat + 1) e2) s2 n2) ∧ (ks8 + 2 * n ≤ 2 * n2 ∧ 64 * kc8 ≤ ks8 ∧ n ≤ n2 ∧ n2 ≤ 160000) ∧ (∀ j : Nat, (j : Int) < F c.toNat → f2 j = fi j) ∧ (F c.toNat ≤ e2) ∧ (inc f2 (F c.toNat) e2 (st + 32)) ∧ (inc f2 (F c.toNat) e2 w)
set_option maxHeartbeats 4000000 in
set_option maxRecDepth 100000 in
/-- changes of a word come to the open list -/
theorem c_X4_addPlaces (l : Launch) (g : GG) (h0 : Nat) (sa : Nat) (w : Int) (ls : Nat) (h1 : Nat) (it : Nat) (n : Nat) (c : Int) (F : Nat → Int) (fs : Nat → Int32) (fi : Nat → Int32) (ch : Int32) (st : Int) (hp0 : LB c F fs n) (hp1 : RI w c F fi) (hp2 : inc fi (F c.toNat) (F (c.toNat + 1)) st) (hp3 : 0 ≤ st ∧ st < w) (hp4 : 1 ≤ w ∧ w ≤ 3000) (hp5 : n ≤ 160000) (hp6 : c ≤ 24) : CtE l g yX4_addPlaces (wM yX4_addPlaces cX4_addPlaces 5 none) (rmD 3 6000 650000) [.ref h0, .int ch, .int (iI st), .ref ls] [(h0, ob 4 [.int (iI w), .ref sa]), (ls, ob 2 [.ref h1, .ref it, .int (iI c)]), (h1, aI g 27 fs), (it, aI g n fi)] (po_c_X4_addPlaces g h0 sa w ls h1 it n c F fs fi ch st) := by
  refine CtE_of (by decide +kernel) (Nat.le_of_ble_eq_true rfl) ?_
  intro p9 e9 s9 m9 ag9 bl9 mt9 c9 A9 fx hr hnm
  have hc := LB_c hp0
  have hlen := LB_len hp0 (x := c) (by omega)
  have hFc := RI_len hp0 hp1 (by omega) c.toNat (by omega)
  have hopen := inc_len hp2 (by omega)
  refine v_iconst fx dX4_addPlaces_0 rfl ?_
  refine v_istore fx [(4, .int (iI 0)), (0, .ref h0), (1, .int ch), (2, .int (iI st)), (3, .ref ls)] dX4_addPlaces_1 (by decide) rfl rfl ?_
  have L3 : ∀ (N : Nat) (i : Int) (e1 : Int) (t1 : Nat) (n1 : Nat) (s1 : Nat → Int32) (f1 : Nat → Int32) (cl : Nat) (sl : Nat), (0 ≤ i ∧ i ≤ 32 ∧ st + i ≤ w) → (LB c (fU F (c.toNat + 1) e1) s1 n1) → (∀ j : Nat, (j : Int) < F c.toNat → f1 j = fi j) → (inc f1 (F c.toNat) e1 (st + i)) → (n1 ≤ 160000 ∧ n ≤ n1 ∧ sl + 2 * n ≤ 2 * n1 ∧ 64 * cl ≤ sl) → (F c.toNat ≤ e1) → ((32 - i).toNat) < N → V p9 l e9 (rmD 3 6000 650000) s9 m9 ag9 bl9 mt9 c9 5 g A9 (MQE bl9 (cQE g (po_c_X4_addPlaces g h0 sa w ls h1 it n c F fs fi ch st) A9) ag9 s9 A9) [(h0, ob 4 [.int (iI w), .ref sa]), (ls, ob 2 [.ref h1, .ref t1, .int (iI c)]), (h1, aI g 27 s1), (t1, aI g n1 f1)] cl sl [(0, .ref h0), (1, .int ch), (2, .int (iI st)), (3, .ref ls), (4, .int (iI i))] 3 [] := by
    intro N
    induction N with
    | zero => intro i e1 t1 n1 s1 f1 cl sl hi3_0 hi3_1 hi3_2 hi3_3 hi3_4 hi3_5 hN; exact absurd hN (Nat.not_lt_zero _)
    | succ N ihL3 =>
      intro i e1 t1 n1 s1 f1 cl sl hi3_0 hi3_1 hi3_2 hi3_3 hi3_4 hi3_5 hN3
      have hlen1 := inc_len hi3_3 (by omega)
      have hn1 := LB_n hi3_1
      refine v_iload fx 4 dX4_addPlaces_3 rfl rfl ?_
      refine v_bipush fx dX4_addPlaces_5 (by decide +kernel) rfl ?_
      refine v_icmp_ge fx 45 dX4_addPlaces_7 (by decide) rfl (by omega) (by omega) (fun h_1 => ?_) (fun h_1 => ?_)
      ·
        exact v_vretE fx [(h0, ob 4 [.int (iI w), .ref sa]), (ls, ob 2 [.ref h1, .ref t1, .int (iI c)]), (h1, aI g 27 s1), (t1, aI g n1 f1)] [0, 1, 2, 3] hr dX4_addPlaces_45 rfl rfl ⟨t1, n1, s1, f1, e1, rfl, rfl, (by exact hi3_1), (by first | omega | rfl | assumption), (by exact hi3_2), (by first | omega | rfl | assumption), (by exact inc_mono hi3_3 (by omega)), (by exact inc_mono hi3_3 (by omega))⟩
      ·
        refine v_iload_n fx 2 dX4_addPlaces_10 rfl rfl ?_
        refine v_iload fx 4 dX4_addPlaces_11 rfl rfl ?_
        refine v_iadd fx (st + i) dX4_addPlaces_13 (by rfl) rfl ?_
        refine v_aload_n fx 0 dX4_addPlaces_14 rfl rfl ?_
        refine v_get fx 0 0 inX4 k91 dX4_addPlaces_15 rfl rfl (by decide) rfl rfl rfl ?_
        refine v_icmp_ge fx 45 dX4_addPlaces_18 (by decide) rfl (by omega) (by omega) (fun h_2 => ?_) (fun h_2 => ?_)
        ·
          exact v_vretE fx [(h0, ob 4 [.int (iI w), .ref sa]), (ls, ob 2 [.ref h1, .ref t1, .int (iI c)]), (h1, aI g 27 s1), (t1, aI g n1 f1)] [0, 1, 2, 3] hr dX4_addPlaces_45 rfl rfl ⟨t1, n1, s1, f1, e1, rfl, rfl, (by exact hi3_1), (by first | omega | rfl | assumption), (by exact hi3_2), (by first | omega | rfl | assumption), (by exact inc_mono hi3_3 (by omega)), (by exact inc_mono hi3_3 (by omega))⟩
        ·
          refine v_iload_n fx 1 dX4_addPlaces_21 rfl rfl ?_
          refine v_iload fx 4 dX4_addPlaces_22 rfl rfl ?_
          obtain ⟨t_3, et_3⟩ : ∃ x9 : Int32, ch >>> ((iI i) &&& 31) = x9 := ⟨_, rfl⟩
          refine v_ishr fx t_3 dX4_addPlaces_24 et_3 rfl ?_
          refine v_iconst fx dX4_addPlaces_25 rfl ?_
          obtain ⟨t_4, et_4⟩ : ∃ x9 : Int32, t_3 &&& (iI 1) = x9 := ⟨_, rfl⟩
          refine v_iand fx t_4 dX4_addPlaces_26 et_4 rfl ?_
          refine v_any (fun z_5 hz_5 ez_5 => ?_)
          refine v_iconst fx dX4_addPlaces_27 rfl ?_
          refine v_icmp_ne fx 39 dX4_addPlaces_28 (by decide) rfl (by omega) (by omega) (fun h_6 => ?_) (fun h_6 => ?_)
          ·
            refine v_iinc fx 4 (i + 1) [(4, .int (iI (i + 1))), (0, .ref h0), (1, .int ch), (2, .int (iI st)), (3, .ref ls)] dX4_addPlaces_39 rfl (by omega) (by decide) rfl rfl ?_
            refine v_goto fx 3 dX4_addPlaces_42 (by decide) ?_
            refine v_lv [1, 2, 3, 4, 0] [(0, .ref h0), (1, .int ch), (2, .int (iI st)), (3, .ref ls), (4, .int (iI (i + 1)))] rfl ?_
            exact ihL3 (i + 1) e1 t1 n1 s1 f1 cl sl (by omega) (by assumption) (by first | exact hi3_2 | (intro j hj; rw [hkeep j (by omega)]; exact hi3_2 j hj)) (by first | exact hinc | exact inc_mono hi3_3 (by omega)) (by omega) (by omega) (by omega)
          ·
            refine v_aload_n fx 3 dX4_addPlaces_31 rfl rfl ?_
            refine v_iload_n fx 2 dX4_addPlaces_32 rfl rfl ?_
            refine v_iload fx 4 dX4_addPlaces_33 rfl rfl ?_
            refine v_iadd fx (st + i) dX4_addPlaces_35 (by rfl) rfl ?_
            refine v_callVE (As := [.int (iI (st + i))]) (rest := []) fx [1, 2, 3] [0] [(ls, ob 2 [.ref h1, .ref t1, .int (iI c)]), (h1, aI g 27 s1), (t1, aI g n1 f1)] [(h0, ob 4 [.int (iI w), .ref sa])] 1 0 (c_X2_append l g ls h1 t1 n1 c (fU F (c.toNat + 1) e1) s1 f1 (iI (st + i)) (by exact hi3_1) (by rw [fU_s]; omega) (by omega)) dX4_addPlaces_36 k334 k335 k336 k49 k337 ykX2_append rfl rfl rfl rfl rfl rfl rfl rfl (nl rfl) ⟨nl rfl, nl rfl⟩ ⟨(by show cl + 1 ≤ 6000; omega), (by show sl + (2 * n1) ≤ 650000; omega)⟩ rfl (fun v9 w9 kc_7 ks_8 hu => ?_)
            obtain ⟨ti, ni, si, fj, rfl, rfl, u_9, u_10, u_11, u_12⟩ := hu
            refine v_is (wn := [(h0, ob 4 [.int (iI w), .ref sa]), (ls, ob 2 [.ref h1, .ref ti, .int (iI c)]), (h1, aI g 27 si), (ti, aI g ni fj)]) (cn := cl + kc_7) (sn := sl + ks_8) (sn2 := []) rfl rfl rfl rfl ?_
            simp only [fU_s, fU_fU] at u_9 u_11 u_12
            have hinc := inc_app (p2 := st + (i + 1)) hi3_3 (by omega) u_11 u_12 (by omega)
            have hkeep := u_11
            refine v_iinc fx 4 (i + 1) [(4, .int (iI (i + 1))), (0, .ref h0), (1, .int ch), (2, .int (iI st)), (3, .ref ls)] dX4_addPlaces_39 rfl (by omega) (by decide) rfl rfl ?_
            refine v_goto fx 3 dX4_addPlaces_42 (by decide) ?_
            refine v_lv [1, 2, 3, 4, 0] [(0, .ref h0), (1, .int ch), (2, .int (iI st)), (3, .ref ls), (4, .int (iI (i + 1)))] rfl ?_
            exact ihL3 (i + 1) (e1 + 1) ti ni si fj (cl + kc_7) (sl + ks_8) (by omega) (by assumption) (by first | exact hi3_2 | (intro j hj; rw [hkeep j (by omega)]; exact hi3_2 j hj)) (by first | exact hinc | exact inc_mono hi3_3 (by omega)) (by omega) (by omega) (by omega)
  refine v_lv [1, 2, 3, 4, 0] [(0, .ref h0), (1, .int ch), (2, .int (iI st)), (3, .ref ls), (4, .int (iI 0))] rfl ?_
  exact L3 _ 0 (F (c.toNat + 1)) it n fs fi 0 0 (by omega) (by rw [fU_same]; exact hp0) (by intro j hj; rfl) (by simpa using hp2) (by omega) (by omega) (Nat.lt_succ_self _)
theorem dX4_addChangesTo_0 : decode cX4_addChangesTo 0 = .ok (.iconst 0, 1) := by decide +kernel
theorem dX4_addChangesTo_1 : decode cX4_addChangesTo 1 = .ok (.istore_n 2, 1) := by decide +kernel
theorem dX4_addChangesTo_2 : decode cX4_addChangesTo 2 = .ok (.iconst 0, 1) := by decide +kernel
theorem dX4_addChangesTo_3 : decode cX4_addChangesTo 3 = .ok (.istore_n 3, 1) := by decide +kernel
theorem dX4_addChangesTo_4 : decode cX4_addChangesTo 4 = .ok (.iload_n 3, 1) := by decide +kernel
theorem dX4_addChangesTo_5 : decode cX4_addChangesTo 5 = .ok (.aload_n 0, 1) := by decide +kernel
theorem dX4_addChangesTo_6 : decode cX4_addChangesTo 6 = .ok (.getfield 13, 3) := by decide +kernel
theorem dX4_addChangesTo_9 : decode cX4_addChangesTo 9 = .ok (.arraylength, 1) := by decide +kernel
theorem dX4_addChangesTo_10 : decode cX4_addChangesTo 10 = .ok (.if_icmp .ge 53, 3) := by decide +kernel
theorem dX4_addChangesTo_13 : decode cX4_addChangesTo 13 = .ok (.aload_n 0, 1) := by decide +kernel
theorem dX4_addChangesTo_14 : decode cX4_addChangesTo 14 = .ok (.getfield 13, 3) := by decide +kernel
theorem dX4_addChangesTo_17 : decode cX4_addChangesTo 17 = .ok (.iload_n 3, 1) := by decide +kernel
theorem dX4_addChangesTo_18 : decode cX4_addChangesTo 18 = .ok (.iaload, 1) := by decide +kernel
theorem dX4_addChangesTo_19 : decode cX4_addChangesTo 19 = .ok (.aload_n 0, 1) := by decide +kernel
theorem dX4_addChangesTo_20 : decode cX4_addChangesTo 20 = .ok (.getfield 13, 3) := by decide +kernel
theorem dX4_addChangesTo_23 : decode cX4_addChangesTo 23 = .ok (.iload_n 3, 1) := by decide +kernel
theorem dX4_addChangesTo_24 : decode cX4_addChangesTo 24 = .ok (.iaload, 1) := by decide +kernel
theorem dX4_addChangesTo_25 : decode cX4_addChangesTo 25 = .ok (.iconst 1, 1) := by decide +kernel
theorem dX4_addChangesTo_26 : decode cX4_addChangesTo 26 = .ok (.ishl, 1) := by decide +kernel
theorem dX4_addChangesTo_27 : decode cX4_addChangesTo 27 = .ok (.iload_n 2, 1) := by decide +kernel
theorem dX4_addChangesTo_28 : decode cX4_addChangesTo 28 = .ok (.ior, 1) := by decide +kernel
theorem dX4_addChangesTo_29 : decode cX4_addChangesTo 29 = .ok (.ixor, 1) := by decide +kernel
theorem dX4_addChangesTo_30 : decode cX4_addChangesTo 30 = .ok (.istore 4, 2) := by decide +kernel
theorem dX4_addChangesTo_32 : decode cX4_addChangesTo 32 = .ok (.iload 4, 2) := by decide +kernel
theorem dX4_addChangesTo_34 : decode cX4_addChangesTo 34 = .ok (.ifCond .eq 13, 3) := by decide +kernel
theorem dX4_addChangesTo_37 : decode cX4_addChangesTo 37 = .ok (.aload_n 0, 1) := by decide +kernel
theorem dX4_addChangesTo_38 : decode cX4_addChangesTo 38 = .ok (.iload 4, 2) := by decide +kernel
theorem dX4_addChangesTo_40 : decode cX4_addChangesTo 40 = .ok (.iload_n 3, 1) := by decide +kernel
theorem dX4_addChangesTo_41 : decode cX4_addChangesTo 41 = .ok (.iconst 5, 1) := by decide +kernel
theorem dX4_addChangesTo_42 : decode cX4_addChangesTo 42 = .ok (.ishl, 1) := by decide +kernel
theorem dX4_addChangesTo_43 : decode cX4_addChangesTo 43 = .ok (.aload_n 1, 1) := by decide +kernel
theorem dX4_addChangesTo_44 : decode cX4_addChangesTo 44 = .ok (.invokevirtual 23, 3) := by decide +kernel
theorem dX4_addChangesTo_47 : decode cX4_addChangesTo 47 = .ok (.aload_n 0, 1) := by decide +kernel
theorem dX4_addChangesTo_48 : decode cX4_addChangesTo 48 = .ok (.getfield 13, 3) := by decide +kernel
theorem dX4_addChangesTo_51 : decode cX4_addChangesTo 51 = .ok (.iload_n 3, 1) := by decide +kernel
theorem dX4_addChangesTo_52 : decode cX4_addChangesTo 52 = .ok (.iaload, 1) := by decide +kernel
theorem dX4_addChangesTo_53 : decode cX4_addChangesTo 53 = .ok (.bipush 31, 2) := by decide +kernel
theorem dX4_addChangesTo_55 : decode cX4_addChangesTo 55 = .ok (.iushr, 1) := by decide +kernel
theorem dX4_addChangesTo_56 : decode cX4_addChangesTo 56 = .ok (.istore_n 2, 1) := by decide +kernel
theorem dX4_addChangesTo_57 : decode cX4_addChangesTo 57 = .ok (.iinc 3 1, 3) := by decide +kernel
theorem dX4_addChangesTo_60 : decode cX4_addChangesTo 60 = .ok (.goto (-56), 3) := by decide +kernel
theorem dX4_addChangesTo_63 : decode cX4_addChangesTo 63 = .ok (.return_, 1) := by decide +kernel
abbrev po_c_X4_addChangesTo (g : GG) (h0 : Nat) (sa : Nat) (w : Int) (fw : Nat → Int32) (ls : Nat) (h1 : Nat) (it : Nat) (n : Nat) (c : Int) (F : Nat → Int) (fs : Nat → Int32) (fi : Nat → Int32) : Option Value → va_W → Nat → Nat → Prop := fun v8 w8 kc8 ks8 => ∃ i2 : Nat, ∃ n2 : Nat, ∃ s2 : Nat → Int32, ∃ f2 : Nat → Int32, ∃ e2 : Int, v8 = none ∧ w8 = [(h0, ob 4 [.int (iI w), .ref sa]), (sa, aI g (((w + 31) / 32).toNat) fw), (ls, ob 2 [.ref h1, .ref i2, .int (iI c)]), (h1, aI g 27 s2), (i2, aI g n2 f2)] ∧ (LB c (fU F (c.toNat + 1) e2) s2 n2) ∧ (ks8 + 2 * n ≤ 2 * n2 ∧ 64 * kc8 ≤ ks8 ∧ n ≤ n2 ∧ n2 ≤ 160000) ∧ (∀ j : Nat, (j : Int) < F c.toNat → f2 j = fi j) ∧ (F c.toNat ≤ e2) ∧ (inc f2 (F c.toNat) e2 w)
set_option maxHeartbeats 4000000 in
set_option maxRecDepth 100000 in
/-- the changes of the row that is made come to the open list -/
theorem c_X4_addChangesTo (l : Launch) (g : GG) (h0 : Nat) (sa : Nat) (w : Int) (fw : Nat → Int32) (ls : Nat) (h1 : Nat) (it : Nat) (n : Nat) (c : Int) (F : Nat → Int) (fs : Nat → Int32) (fi : Nat → Int32) (hp0 : LB c F fs n) (hp1 : RI w c F fi) (hp2 : F (c.toNat + 1) = F c.toNat) (hp3 : 1 ≤ w ∧ w ≤ 3000) (hp4 : n ≤ 160000) (hp5 : c ≤ 24) : CtE l g yX4_addChangesTo (wM yX4_addChangesTo cX4_addChangesTo 5 none) (rmD 4 (6000 + 5001) 1290000) [.ref h0, .ref ls] [(h0, ob 4 [.int (iI w), .ref sa]), (sa, aI g (((w + 31) / 32).toNat) fw), (ls, ob 2 [.ref h1, .ref it, .int (iI c)]), (h1, aI g 27 fs), (it, aI g n fi)] (po_c_X4_addChangesTo g h0 sa w fw ls h1 it n c F fs fi) := by
  refine CtE_of (by decide +kernel) (Nat.le_of_ble_eq_true rfl) ?_
  intro p9 e9 s9 m9 ag9 bl9 mt9 c9 A9 fx hr hnm
  have hc := LB_c hp0
  have hlen := LB_len hp0 (x := c) (by omega)
  refine v_iconst fx dX4_addChangesTo_0 rfl ?_
  refine v_istore_n fx [(2, .int (iI 0)), (0, .ref h0), (1, .ref ls)] dX4_addChangesTo_1 (by decide) rfl rfl ?_
  refine v_iconst fx dX4_addChangesTo_2 rfl ?_
  refine v_istore_n fx [(3, .int (iI 0)), (2, .int (iI 0)), (0, .ref h0), (1, .ref ls)] dX4_addChangesTo_3 (by decide) rfl rfl ?_
  have L4 : ∀ (N : Nat) (i : Int) (bf : Int32) (e1 : Int) (t1 : Nat) (n1 : Nat) (s1 : Nat → Int32) (f1 : Nat → Int32) (cl : Nat) (sl : Nat), (0 ≤ i ∧ i ≤ (w + 31) / 32) → (LB c (fU F (c.toNat + 1) e1) s1 n1) → (∀ j : Nat, (j : Int) < F c.toNat → f1 j = fi j) → (inc f1 (F c.toNat) e1 (32 * i)) → (inc f1 (F c.toNat) e1 w) → (n1 ≤ 160000 ∧ n ≤ n1 ∧ sl + 2 * n ≤ 2 * n1 ∧ 64 * cl ≤ sl) → (F c.toNat ≤ e1) → (((w + 31) / 32 - i).toNat) < N → V p9 l e9 (rmD 4 (6000 + 5001) 1290000) s9 m9 ag9 bl9 mt9 c9 5 g A9 (MQE bl9 (cQE g (po_c_X4_addChangesTo g h0 sa w fw ls h1 it n c F fs fi) A9) ag9 s9 A9) [(h0, ob 4 [.int (iI w), .ref sa]), (sa, aI g (((w + 31) / 32).toNat) fw), (ls, ob 2 [.ref h1, .ref t1, .int (iI c)]), (h1, aI g 27 s1), (t1, aI g n1 f1)] cl sl [(0, .ref h0), (1, .ref ls), (2, .int bf), (3, .int (iI i))] 4 [] := by
    intro N
    induction N with
    | zero => intro i bf e1 t1 n1 s1 f1 cl sl hi4_0 hi4_1 hi4_2 hi4_3 hi4_4 hi4_5 hi4_6 hN; exact absurd hN (Nat.not_lt_zero _)
    | succ N ihL4 =>
      intro i bf e1 t1 n1 s1 f1 cl sl hi4_0 hi4_1 hi4_2 hi4_3 hi4_4 hi4_5 hi4_6 hN4
      refine v_iload_n fx 3 dX4_addChangesTo_4 rfl rfl ?_
      refine v_aload_n fx 0 dX4_addChangesTo_5 rfl rfl ?_
      refine v_get fx 0 1 inX4 k92 dX4_addChangesTo_6 rfl rfl (by decide) rfl rfl rfl ?_
      refine v_alen fx 1 0 ((w + 31) / 32) dX4_addChangesTo_9 rfl rfl (by show ((((w + 31) / 32).toNat : Nat) : Int) = (w + 31) / 32; omega) rfl ?_
      refine v_icmp_ge fx 63 dX4_addChangesTo_10 (by decide) rfl (by omega) (by omega) (fun h_1 => ?_) (fun h_1 => ?_)
      ·
        exact v_vretE fx [(h0, ob 4 [.int (iI w), .ref sa]), (sa, aI g (((w + 31) / 32).toNat) fw), (ls, ob 2 [.ref h1, .ref t1, .int (iI c)]), (h1, aI g 27 s1), (t1, aI g n1 f1)] [0, 1, 2, 3, 4] hr dX4_addChangesTo_63 rfl rfl ⟨t1, n1, s1, f1, e1, rfl, rfl, (by exact hi4_1), (by first | omega | rfl | assumption), (by exact hi4_2), (by first | omega | rfl | assumption), (by exact hi4_4)⟩
      ·
        refine v_aload_n fx 0 dX4_addChangesTo_13 rfl rfl ?_
        refine v_get fx 0 1 inX4 k92 dX4_addChangesTo_14 rfl rfl (by decide) rfl rfl rfl ?_
        refine v_iload_n fx 3 dX4_addChangesTo_17 rfl rfl ?_
        refine v_iald fx 1 dX4_addChangesTo_18 rfl (by omega) (by omega) rfl ?_
        refine v_aload_n fx 0 dX4_addChangesTo_19 rfl rfl ?_
        refine v_get fx 0 1 inX4 k92 dX4_addChangesTo_20 rfl rfl (by decide) rfl rfl rfl ?_
        refine v_iload_n fx 3 dX4_addChangesTo_23 rfl rfl ?_
        refine v_iald fx 1 dX4_addChangesTo_24 rfl (by omega) (by omega) rfl ?_
        refine v_iconst fx dX4_addChangesTo_25 rfl ?_
        obtain ⟨t_2, et_2⟩ : ∃ x9 : Int32, (fw (i).toNat) <<< ((iI 1) &&& 31) = x9 := ⟨_, rfl⟩
        refine v_ishl fx t_2 dX4_addChangesTo_26 et_2 rfl ?_
        refine v_iload_n fx 2 dX4_addChangesTo_27 rfl rfl ?_
        obtain ⟨t_3, et_3⟩ : ∃ x9 : Int32, t_2 ||| bf = x9 := ⟨_, rfl⟩
        refine v_ior fx t_3 dX4_addChangesTo_28 et_3 rfl ?_
        obtain ⟨t_4, et_4⟩ : ∃ x9 : Int32, (fw (i).toNat) ^^^ t_3 = x9 := ⟨_, rfl⟩
        refine v_ixor fx t_4 dX4_addChangesTo_29 et_4 rfl ?_
        refine v_istore fx [(4, .int t_4), (0, .ref h0), (1, .ref ls), (2, .int bf), (3, .int (iI i))] dX4_addChangesTo_30 (by decide) rfl rfl ?_
        refine v_iload fx 0 dX4_addChangesTo_32 rfl rfl ?_
        refine v_any (fun z_5 hz_5 ez_5 => ?_)
        refine v_if_eq fx 47 dX4_addChangesTo_34 (by decide) rfl (by omega) (fun h_6 => ?_) (fun h_6 => ?_)
        ·
          refine v_aload_n fx 1 dX4_addChangesTo_47 rfl rfl ?_
          refine v_get fx 0 1 inX4 k92 dX4_addChangesTo_48 rfl rfl (by decide) rfl rfl rfl ?_
          refine v_iload_n fx 4 dX4_addChangesTo_51 rfl rfl ?_
          refine v_iald fx 1 dX4_addChangesTo_52 rfl (by omega) (by omega) rfl ?_
          refine v_bipush fx dX4_addChangesTo_53 (by decide +kernel) rfl ?_
          obtain ⟨t_7, et_7⟩ : ∃ x9 : Int32, (((fw (i).toNat)).toUInt32 >>> (((iI 31)).toUInt32 &&& Int32.toUInt32 31)).toInt32 = x9 := ⟨_, rfl⟩
          refine v_iushr fx t_7 dX4_addChangesTo_55 et_7 rfl ?_
          refine v_istore_n fx [(2, .int t_7), (4, .int t_4), (0, .ref h0), (1, .ref ls), (3, .int (iI i))] dX4_addChangesTo_56 (by decide) rfl rfl ?_
          refine v_iinc fx 4 (i + 1) [(3, .int (iI (i + 1))), (2, .int t_7), (4, .int t_4), (0, .ref h0), (1, .ref ls)] dX4_addChangesTo_57 rfl (by omega) (by decide) rfl rfl ?_
          refine v_goto fx 4 dX4_addChangesTo_60 (by decide) ?_
          refine v_lv [3, 4, 1, 0] [(0, .ref h0), (1, .ref ls), (2, .int t_7), (3, .int (iI (i + 1)))] rfl ?_
          exact ihL4 (i + 1) t_7 e1 t1 n1 s1 f1 cl sl (by omega) (by first | exact hi4_1 | assumption) (by first | exact hi4_2 | (intro j hj; rw [hkeep j hj]; exact hi4_2 j hj)) (by first | exact inc_mono hi4_3 (by omega) | exact inc_mono hinc (by omega)) (by first | exact hi4_4 | assumption) (by omega) (by omega) (by omega)
        ·
          refine v_aload_n fx 1 dX4_addChangesTo_37 rfl rfl ?_
          refine v_iload fx 0 dX4_addChangesTo_38 rfl rfl ?_
          refine v_iload_n fx 4 dX4_addChangesTo_40 rfl rfl ?_
          refine v_iconst fx dX4_addChangesTo_41 rfl ?_
          refine v_ishl fx (iI (32 * i)) dX4_addChangesTo_42 (iI_shl5 (by omega)) rfl ?_
          refine v_aload_n fx 2 dX4_addChangesTo_43 rfl rfl ?_
          refine v_callVE (As := [.int t_4, .int (iI (32 * i)), .ref ls]) (rest := []) fx [0, 2, 3, 4] [1] [(h0, ob 4 [.int (iI w), .ref sa]), (ls, ob 2 [.ref h1, .ref t1, .int (iI c)]), (h1, aI g 27 s1), (t1, aI g n1 f1)] [(sa, aI g (((w + 31) / 32).toNat) fw)] 3 0 (c_X4_addPlaces l g h0 sa w ls h1 t1 n1 c (fU F (c.toNat + 1) e1) s1 f1 t_4 (32 * i) (by exact hi4_1) (by exact RI_keep hp0 hp1 (E := F c.toNat) (Int.le_refl _) hi4_2 _) (by rw [fU_s, fU_b]; exact hi4_3) (by first | omega | decide | assumption) (by first | omega | decide | assumption) (by first | omega | decide | assumption) (by first | omega | decide | assumption)) dX4_addChangesTo_44 k330 k332 k4 k48 k333 ykX4_addPlaces rfl rfl rfl rfl rfl rfl rfl rfl (nl rfl) ⟨nl rfl, nl rfl⟩ ⟨(by show cl + 6000 ≤ (6000 + 5001); omega), (by show sl + 650000 ≤ 1290000; omega)⟩ rfl (fun v9 w9 kc_8 ks_9 hu => ?_)
          obtain ⟨i2_10, n2_11, s2_12, fj, e2_13, rfl, rfl, u_14, u_15, u_16, u_17, u_18, u_19⟩ := hu
          refine v_is (wn := [(sa, aI g (((w + 31) / 32).toNat) fw), (h0, ob 4 [.int (iI w), .ref sa]), (ls, ob 2 [.ref h1, .ref i2_10, .int (iI c)]), (h1, aI g 27 s2_12), (i2_10, aI g n2_11 fj)]) (cn := cl + kc_8) (sn := sl + ks_9) (sn2 := []) rfl rfl rfl rfl ?_
          simp only [fU_fU, fU_b] at u_14 u_16 u_17 u_18 u_19
          have hinc := u_18
          have hkeep := u_16
          refine v_aload_n fx 1 dX4_addChangesTo_47 rfl rfl ?_
          refine v_get fx 1 1 inX4 k92 dX4_addChangesTo_48 rfl rfl (by decide) rfl rfl rfl ?_
          refine v_iload_n fx 4 dX4_addChangesTo_51 rfl rfl ?_
          refine v_iald fx 0 dX4_addChangesTo_52 rfl (by omega) (by omega) rfl ?_
          refine v_bipush fx dX4_addChangesTo_53 (by decide +kernel) rfl ?_
          obtain ⟨t_20, et_20⟩ : ∃ x9 : Int32, (((fw (i).toNat)).toUInt32 >>> (((iI 31)).toUInt32 &&& Int32.toUInt32 31)).toInt32 = x9 := ⟨_, rfl⟩
          refine v_iushr fx t_20 dX4_addChangesTo_55 et_20 rfl ?_
          refine v_istore_n fx [(2, .int t_20), (4, .int t_4), (0, .ref h0), (1, .ref ls), (3, .int (iI i))] dX4_addChangesTo_56 (by decide) rfl rfl ?_
          refine v_iinc fx 4 (i + 1) [(3, .int (iI (i + 1))), (2, .int t_20), (4, .int t_4), (0, .ref h0), (1, .ref ls)] dX4_addChangesTo_57 rfl (by omega) (by decide) rfl rfl ?_
          refine v_goto fx 4 dX4_addChangesTo_60 (by decide) ?_
          refine v_ws [1, 0, 2, 3, 4] [(h0, ob 4 [.int (iI w), .ref sa]), (sa, aI g (((w + 31) / 32).toNat) fw), (ls, ob 2 [.ref h1, .ref i2_10, .int (iI c)]), (h1, aI g 27 s2_12), (i2_10, aI g n2_11 fj)] rfl rfl ?_
          refine v_lv [3, 4, 1, 0] [(0, .ref h0), (1, .ref ls), (2, .int t_20), (3, .int (iI (i + 1)))] rfl ?_
          exact ihL4 (i + 1) t_20 e2_13 i2_10 n2_11 s2_12 fj (cl + kc_8) (sl + ks_9) (by omega) (by first | exact hi4_1 | assumption) (by first | exact hi4_2 | (intro j hj; rw [hkeep j hj]; exact hi4_2 j hj)) (by first | exact inc_mono hi4_3 (by omega) | exact inc_mono hinc (by omega)) (by first | exact hi4_4 | assumption) (by omega) (by omega) (by omega)
  refine v_lv [2, 3, 1, 0] [(0, .ref h0), (1, .ref ls), (2, .int (iI 0)), (3, .int (iI 0))] rfl ?_
  exact L4 _ 0 (iI 0) (F (c.toNat + 1)) it n fs fi 0 0 (by omega) (by rw [fU_same]; exact hp0) (by intro j hj; rfl) (by rw [hp2]; exact inc_none) (by rw [hp2]; exact inc_none) (by omega) (by omega) (Nat.lt_succ_self _)
