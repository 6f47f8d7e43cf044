/-! CONSTRUCTORS of the class -/
theorem dX2_init_0 : decode cX2_init 0 = .ok (.aload_n 0, 1) := by decide +kernel
theorem dX2_init_1 : decode cX2_init 1 = .ok (.invokespecial 3, 3) := by decide +kernel
theorem dX2_init_4 : decode cX2_init 4 = .ok (.aload_n 0, 1) := by decide +kernel
theorem dX2_init_5 : decode cX2_init 5 = .ok (.bipush 27, 2) := by decide +kernel
theorem dX2_init_7 : decode cX2_init 7 = .ok (.newarray .int, 2) := by decide +kernel
theorem dX2_init_9 : decode cX2_init 9 = .ok (.putfield 11, 3) := by decide +kernel
theorem dX2_init_12 : decode cX2_init 12 = .ok (.aload_n 0, 1) := by decide +kernel
theorem dX2_init_13 : decode cX2_init 13 = .ok (.bipush 32, 2) := by decide +kernel
theorem dX2_init_15 : decode cX2_init 15 = .ok (.newarray .int, 2) := by decide +kernel
theorem dX2_init_17 : decode cX2_init 17 = .ok (.putfield 15, 3) := by decide +kernel
theorem dX2_init_20 : decode cX2_init 20 = .ok (.return_, 1) := by decide +kernel
abbrev po_c_X2_init (g : GG) (h0 : Nat) : Option Value → va_W → Prop := fun v8 w8 => ∃ a1 : Nat, ∃ a2 : Nat, v8 = none ∧ w8 = [(h0, ob 2 [.ref a1, .ref a2, .int (iI 0)]), (a1, aI g 27 (fun _ => 0)), (a2, aI g 32 (fun _ => 0))]
set_option maxHeartbeats 4000000 in
set_option maxRecDepth 100000 in
/-- new Lists -/
theorem c_X2_init (l : Launch) (g : GG) (h0 : Nat) : Ct l g yX2_init (wM yX2_init cX2_init 1 none) (rmD 1 2 59) [.ref h0] [(h0, ob 2 [.null, .null, .int (iI 0)])] (po_c_X2_init g h0) := by
  refine Ct_of (by decide +kernel) (Nat.le_of_ble_eq_true rfl) ?_
  intro p9 e9 s9 m9 ag9 bl9 mt9 c9 A9 fx hr hnm
  refine v_aload_n fx 0 dX2_init_0 rfl rfl ?_
  refine v_objInit fx (nl rfl) k104 k77 k78 dX2_init_1 (nl rfl) (nl rfl) rfl ?_
  refine v_aload_n fx 0 dX2_init_4 rfl rfl ?_
  refine v_bipush fx dX2_init_5 (by decide +kernel) rfl ?_
  refine v_newa fx 0 .int 27 (27, .inl (fun _ => 0)) 1 27 k98 dX2_init_7 rfl rfl rfl (by omega) rfl (fun cA => arr0_int cA _) (by decide) (nl rfl) (nl rfl) rfl rfl rfl (fun q_1 => ?_)
  refine v_is (wn := [(h0, ob 2 [.null, .null, .int (iI 0)]), (q_1, aI g 27 (fun _ => 0))]) (cn := 1) (sn := 27) (sn2 := [.ref q_1, .ref h0]) rfl rfl rfl rfl ?_
  refine v_putF fx 0 0 [(h0, ob 2 [.ref q_1, .null, .int (iI 0)]), (q_1, aI g 27 (fun _ => 0))] hnm inX2 tyX2_ok nmX2 k105 dX2_init_9 rfl rfl (by decide) rfl rfl rfl rfl rfl (nl rfl) rfl rfl ?_
  refine v_aload_n fx 0 dX2_init_12 rfl rfl ?_
  refine v_bipush fx dX2_init_13 (by decide +kernel) rfl ?_
  refine v_newa fx 0 .int 32 (32, .inl (fun _ => 0)) 2 59 k98 dX2_init_15 rfl rfl rfl (by omega) rfl (fun cA => arr0_int cA _) (by decide) (nl rfl) (nl rfl) rfl rfl rfl (fun q_2 => ?_)
  refine v_is (wn := [(h0, ob 2 [.ref q_1, .null, .int (iI 0)]), (q_1, aI g 27 (fun _ => 0)), (q_2, aI g 32 (fun _ => 0))]) (cn := 2) (sn := 59) (sn2 := [.ref q_2, .ref h0]) rfl rfl rfl rfl ?_
  refine v_put fx 0 1 [(h0, ob 2 [.ref q_1, .ref q_2, .int (iI 0)]), (q_1, aI g 27 (fun _ => 0)), (q_2, aI g 32 (fun _ => 0))] inX2 tyX2_ok nmX2 k106 dX2_init_17 rfl rfl (by decide) rfl rfl rfl rfl (nl rfl) rfl rfl ?_
  exact v_vret fx [(h0, ob 2 [.ref q_1, .ref q_2, .int (iI 0)]), (q_1, aI g 27 (fun _ => 0)), (q_2, aI g 32 (fun _ => 0))] [0, 1, 2] hr dX2_init_20 rfl rfl (nl rfl) (nl rfl) ⟨q_1, q_2, rfl, rfl⟩
theorem dX0_init_0 : decode cX0_init 0 = .ok (.aload_n 0, 1) := by decide +kernel
theorem dX0_init_1 : decode cX0_init 1 = .ok (.invokespecial 3, 3) := by decide +kernel
theorem dX0_init_4 : decode cX0_init 4 = .ok (.aload_n 0, 1) := by decide +kernel
theorem dX0_init_5 : decode cX0_init 5 = .ok (.bipush 64, 2) := by decide +kernel
theorem dX0_init_7 : decode cX0_init 7 = .ok (.newarray .byte, 2) := by decide +kernel
theorem dX0_init_9 : decode cX0_init 9 = .ok (.putfield 9, 3) := by decide +kernel
theorem dX0_init_12 : decode cX0_init 12 = .ok (.aload_n 0, 1) := by decide +kernel
theorem dX0_init_13 : decode cX0_init 13 = .ok (.bipush 7, 2) := by decide +kernel
theorem dX0_init_15 : decode cX0_init 15 = .ok (.putfield 15, 3) := by decide +kernel
theorem dX0_init_18 : decode cX0_init 18 = .ok (.return_, 1) := by decide +kernel
abbrev po_c_X0_init (g : GG) (h0 : Nat) : Option Value → va_W → Prop := fun v8 w8 => ∃ a1 : Nat, v8 = none ∧ w8 = [(h0, ob 0 [.ref a1, .int (iI 0), .int (iI 0), .int (iI 7)]), (a1, aB g 64 (fun _ => 0))]
set_option maxHeartbeats 4000000 in
set_option maxRecDepth 100000 in
/-- new Bits -/
theorem c_X0_init (l : Launch) (g : GG) (h0 : Nat) : Ct l g yX0_init (wM yX0_init cX0_init 1 none) (rmD 1 1 64) [.ref h0] [(h0, ob 0 [.null, .int (iI 0), .int (iI 0), .int (iI 0)])] (po_c_X0_init g h0) := by
  refine Ct_of (by decide +kernel) (Nat.le_of_ble_eq_true rfl) ?_
  intro p9 e9 s9 m9 ag9 bl9 mt9 c9 A9 fx hr hnm
  refine v_aload_n fx 0 dX0_init_0 rfl rfl ?_
  refine v_objInit fx (nl rfl) k120 k77 k78 dX0_init_1 (nl rfl) (nl rfl) rfl ?_
  refine v_aload_n fx 0 dX0_init_4 rfl rfl ?_
  refine v_bipush fx dX0_init_5 (by decide +kernel) rfl ?_
  refine v_newa fx 1 .byte 64 (64, .inl (fun _ => 0)) 1 64 k134 dX0_init_7 rfl rfl rfl (by omega) rfl (fun cA => arr0_byte cA _) (by decide) (nl rfl) (nl rfl) rfl rfl rfl (fun q_1 => ?_)
  refine v_is (wn := [(h0, ob 0 [.null, .int (iI 0), .int (iI 0), .int (iI 0)]), (q_1, aB g 64 (fun _ => 0))]) (cn := 1) (sn := 64) (sn2 := [.ref q_1, .ref h0]) rfl rfl rfl rfl ?_
  refine v_put fx 0 0 [(h0, ob 0 [.ref q_1, .int (iI 0), .int (iI 0), .int (iI 0)]), (q_1, aB g 64 (fun _ => 0))] inX0 tyX0_ok nmX0 k121 dX0_init_9 rfl rfl (by decide) rfl rfl rfl rfl (nl rfl) rfl rfl ?_
  refine v_aload_n fx 0 dX0_init_12 rfl rfl ?_
  refine v_bipush fx dX0_init_13 (by decide +kernel) rfl ?_
  refine v_put fx 0 3 [(h0, ob 0 [.ref q_1, .int (iI 0), .int (iI 0), .int (iI 7)]), (q_1, aB g 64 (fun _ => 0))] inX0 tyX0_ok nmX0 k124 dX0_init_15 rfl rfl (by decide) rfl rfl rfl rfl (nl rfl) rfl rfl ?_
  exact v_vret fx [(h0, ob 0 [.ref q_1, .int (iI 0), .int (iI 0), .int (iI 7)]), (q_1, aB g 64 (fun _ => 0))] [0, 1] hr dX0_init_18 rfl rfl (nl rfl) (nl rfl) ⟨q_1, rfl, rfl⟩
theorem dX4_init_0 : decode cX4_init 0 = .ok (.aload_n 0, 1) := by decide +kernel
theorem dX4_init_1 : decode cX4_init 1 = .ok (.invokespecial 1, 3) := by decide +kernel
theorem dX4_init_4 : decode cX4_init 4 = .ok (.aload_n 0, 1) := by decide +kernel
theorem dX4_init_5 : decode cX4_init 5 = .ok (.iload_n 1, 1) := by decide +kernel
theorem dX4_init_6 : decode cX4_init 6 = .ok (.putfield 7, 3) := by decide +kernel
theorem dX4_init_9 : decode cX4_init 9 = .ok (.aload_n 0, 1) := by decide +kernel
theorem dX4_init_10 : decode cX4_init 10 = .ok (.iload_n 1, 1) := by decide +kernel
theorem dX4_init_11 : decode cX4_init 11 = .ok (.bipush 31, 2) := by decide +kernel
theorem dX4_init_13 : decode cX4_init 13 = .ok (.iadd, 1) := by decide +kernel
theorem dX4_init_14 : decode cX4_init 14 = .ok (.iconst 5, 1) := by decide +kernel
theorem dX4_init_15 : decode cX4_init 15 = .ok (.ishr, 1) := by decide +kernel
theorem dX4_init_16 : decode cX4_init 16 = .ok (.newarray .int, 2) := by decide +kernel
theorem dX4_init_18 : decode cX4_init 18 = .ok (.putfield 13, 3) := by decide +kernel
theorem dX4_init_21 : decode cX4_init 21 = .ok (.return_, 1) := by decide +kernel
abbrev po_c_X4_init (g : GG) (h0 : Nat) (w : Int) : Option Value → va_W → Prop := fun v8 w8 => ∃ a1 : Nat, v8 = none ∧ w8 = [(h0, ob 4 [.int (iI w), .ref a1]), (a1, aI g (((w + 31) / 32).toNat) (fun _ => 0))]
set_option maxHeartbeats 4000000 in
set_option maxRecDepth 100000 in
/-- new Samples -/
theorem c_X4_init (l : Launch) (g : GG) (h0 : Nat) (w : Int) (hp0 : 1 ≤ w ∧ w ≤ 3000) : Ct l g yX4_init (wM yX4_init cX4_init 2 none) (rmD 1 1 94) [.ref h0, .int (iI w)] [(h0, ob 4 [.int (iI 0), .null])] (po_c_X4_init g h0 w) := by
  refine Ct_of (by decide +kernel) (Nat.le_of_ble_eq_true rfl) ?_
  intro p9 e9 s9 m9 ag9 bl9 mt9 c9 A9 fx hr hnm
  refine v_aload_n fx 0 dX4_init_0 rfl rfl ?_
  refine v_objInit fx (nl rfl) k90 k77 k78 dX4_init_1 (nl rfl) (nl rfl) rfl ?_
  refine v_aload_n fx 0 dX4_init_4 rfl rfl ?_
  refine v_iload_n fx 1 dX4_init_5 rfl rfl ?_
  refine v_putF fx 0 0 [(h0, ob 4 [.int (iI w), .null])] hnm inX4 tyX4_ok nmX4 k91 dX4_init_6 rfl rfl (by decide) rfl rfl rfl rfl rfl (nl rfl) rfl rfl ?_
  refine v_aload_n fx 0 dX4_init_9 rfl rfl ?_
  refine v_iload_n fx 1 dX4_init_10 rfl rfl ?_
  refine v_bipush fx dX4_init_11 (by decide +kernel) rfl ?_
  refine v_iadd fx (w + 31) dX4_init_13 (by rfl) rfl ?_
  refine v_iconst fx dX4_init_14 rfl ?_
  refine v_ishr fx (iI ((w + 31) / 32)) dX4_init_15 (iI_shr (k := 5) (by omega) _ (by decide)) rfl ?_
  refine v_newa fx 0 .int (((w + 31) / 32).toNat) (((w + 31) / 32).toNat, .inl (fun _ => 0)) 1 (((w + 31) / 32).toNat) k98 dX4_init_16 rfl rfl rfl (by omega) rfl (fun cA => arr0_int cA _) (by decide) (nl rfl) (by show ((w + 31) / 32).toNat ≤ 94; omega) rfl (Nat.zero_add _) rfl (fun q_1 => ?_)
  refine v_is (wn := [(h0, ob 4 [.int (iI w), .null]), (q_1, aI g (((w + 31) / 32).toNat) (fun _ => 0))]) (cn := 1) (sn := ((w + 31) / 32).toNat) (sn2 := [.ref q_1, .ref h0]) rfl rfl rfl rfl ?_
  refine v_putF fx 0 1 [(h0, ob 4 [.int (iI w), .ref q_1]), (q_1, aI g (((w + 31) / 32).toNat) (fun _ => 0))] hnm inX4 tyX4_ok nmX4 k92 dX4_init_18 rfl rfl (by decide) rfl rfl rfl rfl rfl (nl rfl) rfl rfl ?_
  exact v_vret fx [(h0, ob 4 [.int (iI w), .ref q_1]), (q_1, aI g (((w + 31) / 32).toNat) (fun _ => 0))] [0, 1] hr dX4_init_21 rfl rfl (nl rfl) (by show ((w + 31) / 32).toNat ≤ 94; omega) ⟨q_1, rfl, rfl⟩
theorem dX5_init_0 : decode cX5_init 0 = .ok (.aload_n 0, 1) := by decide +kernel
theorem dX5_init_1 : decode cX5_init 1 = .ok (.invokespecial 1, 3) := by decide +kernel
theorem dX5_init_4 : decode cX5_init 4 = .ok (.aload_n 0, 1) := by decide +kernel
theorem dX5_init_5 : decode cX5_init 5 = .ok (.aload_n 1, 1) := by decide +kernel
theorem dX5_init_6 : decode cX5_init 6 = .ok (.putfield 7, 3) := by decide +kernel
theorem dX5_init_9 : decode cX5_init 9 = .ok (.aload_n 0, 1) := by decide +kernel
theorem dX5_init_10 : decode cX5_init 10 = .ok (.iload_n 2, 1) := by decide +kernel
theorem dX5_init_11 : decode cX5_init 11 = .ok (.putfield 13, 3) := by decide +kernel
theorem dX5_init_14 : decode cX5_init 14 = .ok (.return_, 1) := by decide +kernel
abbrev po_c_X5_init (g : GG) (h0 : Nat) (r : Nat) (w : Int) : Option Value → va_W → Prop := fun v8 w8 => v8 = none ∧ w8 = [(h0, ob 5 [.ref r, .int (iI w), .int (iI 0), .int (iI 0), .int (iI 0), .int (iI 0)])]
set_option maxHeartbeats 4000000 in
set_option maxRecDepth 100000 in
/-- new Told -/
theorem c_X5_init (l : Launch) (g : GG) (h0 : Nat) (r : Nat) (w : Int) : Ct l g yX5_init (wM yX5_init cX5_init 3 none) (rmD 1 0 0) [.ref h0, .ref r, .int (iI w)] [(h0, ob 5 [.null, .int (iI 0), .int (iI 0), .int (iI 0), .int (iI 0), .int (iI 0)])] (po_c_X5_init g h0 r w) := by
  refine Ct_of (by decide +kernel) (Nat.le_of_ble_eq_true rfl) ?_
  intro p9 e9 s9 m9 ag9 bl9 mt9 c9 A9 fx hr hnm
  refine v_aload_n fx 0 dX5_init_0 rfl rfl ?_
  refine v_objInit fx (nl rfl) k146 k77 k78 dX5_init_1 (nl rfl) (nl rfl) rfl ?_
  refine v_aload_n fx 0 dX5_init_4 rfl rfl ?_
  refine v_aload_n fx 1 dX5_init_5 rfl rfl ?_
  refine v_putF fx 0 0 [(h0, ob 5 [.ref r, .int (iI 0), .int (iI 0), .int (iI 0), .int (iI 0), .int (iI 0)])] hnm inX5 tyX5_ok nmX5 k147 dX5_init_6 rfl rfl (by decide) rfl rfl rfl rfl rfl (nl rfl) rfl rfl ?_
  refine v_aload_n fx 0 dX5_init_9 rfl rfl ?_
  refine v_iload_n fx 2 dX5_init_10 rfl rfl ?_
  refine v_putF fx 0 1 [(h0, ob 5 [.ref r, .int (iI w), .int (iI 0), .int (iI 0), .int (iI 0), .int (iI 0)])] hnm inX5 tyX5_ok nmX5 k148 dX5_init_11 rfl rfl (by decide) rfl rfl rfl rfl rfl (nl rfl) rfl rfl ?_
  exact v_vret fx [(h0, ob 5 [.ref r, .int (iI w), .int (iI 0), .int (iI 0), .int (iI 0), .int (iI 0)])] [0] hr dX5_init_14 rfl rfl (nl rfl) (nl rfl) ⟨rfl, rfl⟩
theorem dX6_init_0 : decode cX6_init 0 = .ok (.aload_n 0, 1) := by decide +kernel
theorem dX6_init_1 : decode cX6_init 1 = .ok (.invokespecial 3, 3) := by decide +kernel
theorem dX6_init_4 : decode cX6_init 4 = .ok (.aload_n 0, 1) := by decide +kernel
theorem dX6_init_5 : decode cX6_init 5 = .ok (.aload_n 1, 1) := by decide +kernel
theorem dX6_init_6 : decode cX6_init 6 = .ok (.putfield 9, 3) := by decide +kernel
theorem dX6_init_9 : decode cX6_init 9 = .ok (.aload_n 0, 1) := by decide +kernel
theorem dX6_init_10 : decode cX6_init 10 = .ok (.iload_n 2, 1) := by decide +kernel
theorem dX6_init_11 : decode cX6_init 11 = .ok (.putfield 15, 3) := by decide +kernel
theorem dX6_init_14 : decode cX6_init 14 = .ok (.aload_n 0, 1) := by decide +kernel
theorem dX6_init_15 : decode cX6_init 15 = .ok (.aload_n 3, 1) := by decide +kernel
theorem dX6_init_16 : decode cX6_init 16 = .ok (.putfield 19, 3) := by decide +kernel
theorem dX6_init_19 : decode cX6_init 19 = .ok (.aload_n 0, 1) := by decide +kernel
theorem dX6_init_20 : decode cX6_init 20 = .ok (.new 23, 3) := by decide +kernel
theorem dX6_init_23 : decode cX6_init 23 = .ok (.dup, 1) := by decide +kernel
theorem dX6_init_24 : decode cX6_init 24 = .ok (.aload_n 1, 1) := by decide +kernel
theorem dX6_init_25 : decode cX6_init 25 = .ok (.iload_n 2, 1) := by decide +kernel
theorem dX6_init_26 : decode cX6_init 26 = .ok (.invokespecial 25, 3) := by decide +kernel
theorem dX6_init_29 : decode cX6_init 29 = .ok (.putfield 28, 3) := by decide +kernel
theorem dX6_init_32 : decode cX6_init 32 = .ok (.return_, 1) := by decide +kernel
abbrev po_c_X6_init (g : GG) (h0 : Nat) (r : Nat) (o : Nat) (w : Int) : Option Value → va_W → Prop := fun v8 w8 => ∃ td : Nat, v8 = none ∧ w8 = [(h0, ob 6 [.ref r, .int (iI w), .ref o, .ref td]), (td, ob 5 [.ref r, .int (iI w), .int (iI 0), .int (iI 0), .int (iI 0), .int (iI 0)])]
set_option maxHeartbeats 4000000 in
set_option maxRecDepth 100000 in
/-- new Writer -/
theorem c_X6_init (l : Launch) (g : GG) (h0 : Nat) (r : Nat) (o : Nat) (w : Int) : Ct l g yX6_init (wM yX6_init cX6_init 4 none) (rmD 2 1 6) [.ref h0, .ref r, .int (iI w), .ref o] [(h0, ob 6 [.null, .int (iI 0), .null, .null])] (po_c_X6_init g h0 r o w) := by
  refine Ct_of (by decide +kernel) (Nat.le_of_ble_eq_true rfl) ?_
  intro p9 e9 s9 m9 ag9 bl9 mt9 c9 A9 fx hr hnm
  refine v_aload_n fx 0 dX6_init_0 rfl rfl ?_
  refine v_objInit fx (nl rfl) k140 k77 k78 dX6_init_1 (nl rfl) (nl rfl) rfl ?_
  refine v_aload_n fx 0 dX6_init_4 rfl rfl ?_
  refine v_aload_n fx 1 dX6_init_5 rfl rfl ?_
  refine v_putF fx 0 0 [(h0, ob 6 [.ref r, .int (iI 0), .null, .null])] hnm inX6 tyX6_ok nmX6 k166 dX6_init_6 rfl rfl (by decide) rfl rfl rfl rfl rfl (nl rfl) rfl rfl ?_
  refine v_aload_n fx 0 dX6_init_9 rfl rfl ?_
  refine v_iload_n fx 2 dX6_init_10 rfl rfl ?_
  refine v_putF fx 0 1 [(h0, ob 6 [.ref r, .int (iI w), .null, .null])] hnm inX6 tyX6_ok nmX6 k167 dX6_init_11 rfl rfl (by decide) rfl rfl rfl rfl rfl (nl rfl) rfl rfl ?_
  refine v_aload_n fx 0 dX6_init_14 rfl rfl ?_
  refine v_aload_n fx 3 dX6_init_15 rfl rfl ?_
  refine v_putF fx 0 2 [(h0, ob 6 [.ref r, .int (iI w), .ref o, .null])] hnm inX6 tyX6_ok nmX6 k168 dX6_init_16 rfl rfl (by decide) rfl rfl rfl rfl rfl (nl rfl) rfl rfl ?_
  refine v_aload_n fx 0 dX6_init_19 rfl rfl ?_
  refine v_new (ci := 5) fx [.null, .int (iI 0), .int (iI 0), .int (iI 0), .int (iI 0), .int (iI 0)] 1 6 inX5 tyX5_ok k141 k142 k52 dX6_init_20 rfl (fun j hj => by rcases (show j = 0 ∨ j = 1 ∨ j = 2 ∨ j = 3 ∨ j = 4 ∨ j = 5 by omega) with rfl | rfl | rfl | rfl | rfl | rfl <;> rfl) (nl rfl) (nl rfl) rfl rfl rfl (fun q_1 => ?_)
  refine v_is (wn := [(h0, ob 6 [.ref r, .int (iI w), .ref o, .null]), (q_1, ob 5 [.null, .int (iI 0), .int (iI 0), .int (iI 0), .int (iI 0), .int (iI 0)])]) (cn := 1) (sn := 6) (sn2 := [.ref q_1, .ref h0]) rfl rfl rfl rfl ?_
  refine v_dup fx dX6_init_23 rfl rfl ?_
  refine v_aload_n fx 1 dX6_init_24 rfl rfl ?_
  refine v_iload_n fx 2 dX6_init_25 rfl rfl ?_
  refine v_callI (As := [.ref r, .int (iI w)]) (rest := [.ref q_1, .ref h0]) fx [1] [0] [(q_1, ob 5 [.null, .int (iI 0), .int (iI 0), .int (iI 0), .int (iI 0), .int (iI 0)])] [(h0, ob 6 [.ref r, .int (iI w), .ref o, .null])] 2 (c_X5_init l g q_1 r w ) dX6_init_26 k143 k144 rfl k52 k145 ykX5_init rfl rfl rfl rfl rfl (nl rfl) ⟨nl rfl, nl rfl⟩ ⟨(nl rfl), (nl rfl)⟩ rfl (fun v9 w9 hu => ?_)
  obtain ⟨rfl, rfl⟩ := hu
  refine v_is (wn := [(h0, ob 6 [.ref r, .int (iI w), .ref o, .null]), (q_1, ob 5 [.ref r, .int (iI w), .int (iI 0), .int (iI 0), .int (iI 0), .int (iI 0)])]) (cn := 1) (sn := 6) (sn2 := [.ref q_1, .ref h0]) rfl rfl rfl rfl ?_
  refine v_putF fx 0 3 [(h0, ob 6 [.ref r, .int (iI w), .ref o, .ref q_1]), (q_1, ob 5 [.ref r, .int (iI w), .int (iI 0), .int (iI 0), .int (iI 0), .int (iI 0)])] hnm inX6 tyX6_ok nmX6 k169 dX6_init_29 rfl rfl (by decide) rfl rfl rfl rfl rfl (nl rfl) rfl rfl ?_
  exact v_vret fx [(h0, ob 6 [.ref r, .int (iI w), .ref o, .ref q_1]), (q_1, ob 5 [.ref r, .int (iI w), .int (iI 0), .int (iI 0), .int (iI 0), .int (iI 0)])] [0, 1] hr dX6_init_32 rfl rfl (nl rfl) (nl rfl) ⟨q_1, rfl, rfl⟩
theorem dX3_init_0 : decode cX3_init 0 = .ok (.aload_n 0, 1) := by decide +kernel
theorem dX3_init_1 : decode cX3_init 1 = .ok (.invokespecial 3, 3) := by decide +kernel
theorem dX3_init_4 : decode cX3_init 4 = .ok (.aload_n 0, 1) := by decide +kernel
theorem dX3_init_5 : decode cX3_init 5 = .ok (.new 9, 3) := by decide +kernel
theorem dX3_init_8 : decode cX3_init 8 = .ok (.dup, 1) := by decide +kernel
theorem dX3_init_9 : decode cX3_init 9 = .ok (.invokespecial 11, 3) := by decide +kernel
theorem dX3_init_12 : decode cX3_init 12 = .ok (.putfield 12, 3) := by decide +kernel
theorem dX3_init_15 : decode cX3_init 15 = .ok (.aload_n 0, 1) := by decide +kernel
theorem dX3_init_16 : decode cX3_init 16 = .ok (.new 9, 3) := by decide +kernel
theorem dX3_init_19 : decode cX3_init 19 = .ok (.dup, 1) := by decide +kernel
theorem dX3_init_20 : decode cX3_init 20 = .ok (.invokespecial 11, 3) := by decide +kernel
theorem dX3_init_23 : decode cX3_init 23 = .ok (.putfield 18, 3) := by decide +kernel
theorem dX3_init_26 : decode cX3_init 26 = .ok (.aload_n 0, 1) := by decide +kernel
theorem dX3_init_27 : decode cX3_init 27 = .ok (.bipush 25, 2) := by decide +kernel
theorem dX3_init_29 : decode cX3_init 29 = .ok (.newarray .boolean, 2) := by decide +kernel
theorem dX3_init_31 : decode cX3_init 31 = .ok (.putfield 21, 3) := by decide +kernel
theorem dX3_init_34 : decode cX3_init 34 = .ok (.aload_n 0, 1) := by decide +kernel
theorem dX3_init_35 : decode cX3_init 35 = .ok (.new 25, 3) := by decide +kernel
theorem dX3_init_38 : decode cX3_init 38 = .ok (.dup, 1) := by decide +kernel
theorem dX3_init_39 : decode cX3_init 39 = .ok (.invokespecial 27, 3) := by decide +kernel
theorem dX3_init_42 : decode cX3_init 42 = .ok (.putfield 28, 3) := by decide +kernel
theorem dX3_init_45 : decode cX3_init 45 = .ok (.aload_n 0, 1) := by decide +kernel
theorem dX3_init_46 : decode cX3_init 46 = .ok (.new 25, 3) := by decide +kernel
theorem dX3_init_49 : decode cX3_init 49 = .ok (.dup, 1) := by decide +kernel
theorem dX3_init_50 : decode cX3_init 50 = .ok (.invokespecial 27, 3) := by decide +kernel
theorem dX3_init_53 : decode cX3_init 53 = .ok (.putfield 32, 3) := by decide +kernel
theorem dX3_init_56 : decode cX3_init 56 = .ok (.aload_n 0, 1) := by decide +kernel
theorem dX3_init_57 : decode cX3_init 57 = .ok (.new 25, 3) := by decide +kernel
theorem dX3_init_60 : decode cX3_init 60 = .ok (.dup, 1) := by decide +kernel
theorem dX3_init_61 : decode cX3_init 61 = .ok (.invokespecial 27, 3) := by decide +kernel
theorem dX3_init_64 : decode cX3_init 64 = .ok (.putfield 35, 3) := by decide +kernel
theorem dX3_init_67 : decode cX3_init 67 = .ok (.aload_n 0, 1) := by decide +kernel
theorem dX3_init_68 : decode cX3_init 68 = .ok (.iload_n 1, 1) := by decide +kernel
theorem dX3_init_69 : decode cX3_init 69 = .ok (.putfield 38, 3) := by decide +kernel
theorem dX3_init_72 : decode cX3_init 72 = .ok (.aload_n 0, 1) := by decide +kernel
theorem dX3_init_73 : decode cX3_init 73 = .ok (.getfield 28, 3) := by decide +kernel
theorem dX3_init_76 : decode cX3_init 76 = .ok (.getstatic 42, 3) := by decide +kernel
theorem dX3_init_79 : decode cX3_init 79 = .ok (.iconst 0, 1) := by decide +kernel
theorem dX3_init_80 : decode cX3_init 80 = .ok (.invokevirtual 46, 3) := by decide +kernel
theorem dX3_init_83 : decode cX3_init 83 = .ok (.aload_n 0, 1) := by decide +kernel
theorem dX3_init_84 : decode cX3_init 84 = .ok (.getfield 28, 3) := by decide +kernel
theorem dX3_init_87 : decode cX3_init 87 = .ok (.getstatic 50, 3) := by decide +kernel
theorem dX3_init_90 : decode cX3_init 90 = .ok (.getstatic 42, 3) := by decide +kernel
theorem dX3_init_93 : decode cX3_init 93 = .ok (.arraylength, 1) := by decide +kernel
theorem dX3_init_94 : decode cX3_init 94 = .ok (.invokevirtual 46, 3) := by decide +kernel
theorem dX3_init_97 : decode cX3_init 97 = .ok (.aload_n 0, 1) := by decide +kernel
theorem dX3_init_98 : decode cX3_init 98 = .ok (.getfield 32, 3) := by decide +kernel
theorem dX3_init_101 : decode cX3_init 101 = .ok (.getstatic 53, 3) := by decide +kernel
theorem dX3_init_104 : decode cX3_init 104 = .ok (.iconst 0, 1) := by decide +kernel
theorem dX3_init_105 : decode cX3_init 105 = .ok (.invokevirtual 46, 3) := by decide +kernel
theorem dX3_init_108 : decode cX3_init 108 = .ok (.aload_n 0, 1) := by decide +kernel
theorem dX3_init_109 : decode cX3_init 109 = .ok (.getfield 32, 3) := by decide +kernel
theorem dX3_init_112 : decode cX3_init 112 = .ok (.getstatic 50, 3) := by decide +kernel
theorem dX3_init_115 : decode cX3_init 115 = .ok (.getstatic 53, 3) := by decide +kernel
theorem dX3_init_118 : decode cX3_init 118 = .ok (.arraylength, 1) := by decide +kernel
theorem dX3_init_119 : decode cX3_init 119 = .ok (.invokevirtual 46, 3) := by decide +kernel
theorem dX3_init_122 : decode cX3_init 122 = .ok (.aload_n 0, 1) := by decide +kernel
theorem dX3_init_123 : decode cX3_init 123 = .ok (.getfield 35, 3) := by decide +kernel
theorem dX3_init_126 : decode cX3_init 126 = .ok (.getstatic 56, 3) := by decide +kernel
theorem dX3_init_129 : decode cX3_init 129 = .ok (.iconst 0, 1) := by decide +kernel
theorem dX3_init_130 : decode cX3_init 130 = .ok (.invokevirtual 46, 3) := by decide +kernel
theorem dX3_init_133 : decode cX3_init 133 = .ok (.aload_n 0, 1) := by decide +kernel
theorem dX3_init_134 : decode cX3_init 134 = .ok (.aload_n 2, 1) := by decide +kernel
theorem dX3_init_135 : decode cX3_init 135 = .ok (.putfield 59, 3) := by decide +kernel
theorem dX3_init_138 : decode cX3_init 138 = .ok (.aload_n 0, 1) := by decide +kernel
theorem dX3_init_139 : decode cX3_init 139 = .ok (.new 63, 3) := by decide +kernel
theorem dX3_init_142 : decode cX3_init 142 = .ok (.dup, 1) := by decide +kernel
theorem dX3_init_143 : decode cX3_init 143 = .ok (.aload_n 0, 1) := by decide +kernel
theorem dX3_init_144 : decode cX3_init 144 = .ok (.getfield 12, 3) := by decide +kernel
theorem dX3_init_147 : decode cX3_init 147 = .ok (.iload_n 1, 1) := by decide +kernel
theorem dX3_init_148 : decode cX3_init 148 = .ok (.invokespecial 65, 3) := by decide +kernel
theorem dX3_init_151 : decode cX3_init 151 = .ok (.putfield 68, 3) := by decide +kernel
theorem dX3_init_154 : decode cX3_init 154 = .ok (.return_, 1) := by decide +kernel
abbrev po_c_X3_init (g : GG) (h0 : Nat) (src : Nat) (w : Int) : Option Value → va_W → Prop := fun v8 w8 => ∃ yr : Nat, ∃ yrs : Nat, ∃ yri : Nat, ∃ ym : Nat, ∃ yms : Nat, ∃ ymi : Nat, ∃ yd : Nat, ∃ yt1 : Nat, ∃ yb1 : Nat, ∃ yt2 : Nat, ∃ yb2 : Nat, ∃ yt3 : Nat, ∃ yb3 : Nat, ∃ ytd : Nat, ∃ yn1 : Nat, ∃ yn2 : Nat, ∃ yn3 : Nat, ∃ yf1 : Nat → Int32, ∃ yf2 : Nat → Int32, ∃ yf3 : Nat → Int32, ∃ yc1 : Int32, ∃ yc2 : Int32, ∃ yc3 : Int32, v8 = none ∧ w8 = [(h0, ob 3 [.int (iI w), .ref yr, .ref ym, .ref yd, .ref yt1, .ref yt2, .ref yt3, .ref ytd, .ref src]), (yr, ob 2 [.ref yrs, .ref yri, .int (iI 0)]), (yrs, aI g 27 (fun _ => 0)), (yri, aI g 32 (fun _ => 0)), (ym, ob 2 [.ref yms, .ref ymi, .int (iI 0)]), (yms, aI g 27 (fun _ => 0)), (ymi, aI g 32 (fun _ => 0)), (yd, aZ g 25 (fun _ => 0)), (yt1, ob 1 [.ref yb1, .int yc1]), (yb1, aI g yn1 yf1), (yt2, ob 1 [.ref yb2, .int yc2]), (yb2, aI g yn2 yf2), (yt3, ob 1 [.ref yb3, .int yc3]), (yb3, aI g yn3 yf3), (ytd, ob 5 [.ref yr, .int (iI w), .int (iI 0), .int (iI 0), .int (iI 0), .int (iI 0)])] ∧ (yn1 < 100000 ∧ yn2 < 100000 ∧ yn3 < 100000) ∧ (lo yf1) ∧ (lo yf2) ∧ (lo yf3)
set_option maxHeartbeats 4000000 in
set_option maxRecDepth 100000 in
/-- new Reader -/
theorem c_X3_init (l : Launch) (g : GG) (h0 : Nat) (src : Nat) (w : Int) : Ct l g yX3_init (wM yX3_init cX3_init 3 none) (rmD 5 6000 80000) [.ref h0, .int (iI w), .ref src] [(h0, ob 3 [.int (iI 0), .null, .null, .null, .null, .null, .null, .null, .null])] (po_c_X3_init g h0 src w) := by
  refine Ct_of (by decide +kernel) (Nat.le_of_ble_eq_true rfl) ?_
  intro p9 e9 s9 m9 ag9 bl9 mt9 c9 A9 fx hr hnm
  have hg0 : (gT 0).length = 91 := rfl
  have hg1 : (gT 1).length = 91 := rfl
  have hg2 : (gT 2).length = 13 := rfl
  have hg3 : (gT 3).length = 10 := rfl
  refine v_aload_n fx 0 dX3_init_0 rfl rfl ?_
  refine v_objInit fx (nl rfl) k184 k77 k78 dX3_init_1 (nl rfl) (nl rfl) rfl ?_
  refine v_aload_n fx 0 dX3_init_4 rfl rfl ?_
  refine v_new (ci := 2) fx [.null, .null, .int (iI 0)] 1 3 inX2 tyX2_ok k185 k100 k49 dX3_init_5 rfl (fun j hj => by rcases (show j = 0 ∨ j = 1 ∨ j = 2 by omega) with rfl | rfl | rfl <;> rfl) (nl rfl) (nl rfl) rfl rfl rfl (fun q_1 => ?_)
  refine v_is (wn := [(h0, ob 3 [.int (iI 0), .null, .null, .null, .null, .null, .null, .null, .null]), (q_1, ob 2 [.null, .null, .int (iI 0)])]) (cn := 1) (sn := 3) (sn2 := [.ref q_1, .ref h0]) rfl rfl rfl rfl ?_
  refine v_dup fx dX3_init_8 rfl rfl ?_
  refine v_callIN (As := []) (rest := [.ref q_1, .ref h0]) fx [1] [0] [(q_1, ob 2 [.null, .null, .int (iI 0)])] [(h0, ob 3 [.int (iI 0), .null, .null, .null, .null, .null, .null, .null, .null])] 0 (c_X2_init l g q_1 ) dX3_init_9 n186 k102 rfl k49 k103 ykX2_init rfl rfl rfl rfl rfl (nl rfl) ⟨nl rfl, nl rfl⟩ ⟨(nl rfl), (nl rfl)⟩ rfl (fun v9 w9 hu => ?_)
  obtain ⟨a1_2, a2_3, rfl, rfl⟩ := hu
  refine v_is (wn := [(h0, ob 3 [.int (iI 0), .null, .null, .null, .null, .null, .null, .null, .null]), (q_1, ob 2 [.ref a1_2, .ref a2_3, .int (iI 0)]), (a1_2, aI g 27 (fun _ => 0)), (a2_3, aI g 32 (fun _ => 0))]) (cn := 3) (sn := 62) (sn2 := [.ref q_1, .ref h0]) rfl rfl rfl rfl ?_
  refine v_putF fx 0 1 [(h0, ob 3 [.int (iI 0), .ref q_1, .null, .null, .null, .null, .null, .null, .null]), (q_1, ob 2 [.ref a1_2, .ref a2_3, .int (iI 0)]), (a1_2, aI g 27 (fun _ => 0)), (a2_3, aI g 32 (fun _ => 0))] hnm inX3 tyX3_ok nmX3 k249 dX3_init_12 rfl rfl (by decide) rfl rfl rfl rfl rfl (nl rfl) rfl rfl ?_
  refine v_aload_n fx 0 dX3_init_15 rfl rfl ?_
  refine v_new (ci := 2) fx [.null, .null, .int (iI 0)] 4 65 inX2 tyX2_ok k185 k100 k49 dX3_init_16 rfl (fun j hj => by rcases (show j = 0 ∨ j = 1 ∨ j = 2 by omega) with rfl | rfl | rfl <;> rfl) (nl rfl) (nl rfl) rfl rfl rfl (fun q_4 => ?_)
  refine v_is (wn := [(h0, ob 3 [.int (iI 0), .ref q_1, .null, .null, .null, .null, .null, .null, .null]), (q_1, ob 2 [.ref a1_2, .ref a2_3, .int (iI 0)]), (a1_2, aI g 27 (fun _ => 0)), (a2_3, aI g 32 (fun _ => 0)), (q_4, ob 2 [.null, .null, .int (iI 0)])]) (cn := 4) (sn := 65) (sn2 := [.ref q_4, .ref h0]) rfl rfl rfl rfl ?_
  refine v_dup fx dX3_init_19 rfl rfl ?_
  refine v_callIN (As := []) (rest := [.ref q_4, .ref h0]) fx [4] [0, 1, 2, 3] [(q_4, ob 2 [.null, .null, .int (iI 0)])] [(h0, ob 3 [.int (iI 0), .ref q_1, .null, .null, .null, .null, .null, .null, .null]), (q_1, ob 2 [.ref a1_2, .ref a2_3, .int (iI 0)]), (a1_2, aI g 27 (fun _ => 0)), (a2_3, aI g 32 (fun _ => 0))] 0 (c_X2_init l g q_4 ) dX3_init_20 n186 k102 rfl k49 k103 ykX2_init rfl rfl rfl rfl rfl (nl rfl) ⟨nl rfl, nl rfl⟩ ⟨(nl rfl), (nl rfl)⟩ rfl (fun v9 w9 hu => ?_)
  obtain ⟨a1_5, a2_6, rfl, rfl⟩ := hu
  refine v_is (wn := [(h0, ob 3 [.int (iI 0), .ref q_1, .null, .null, .null, .null, .null, .null, .null]), (q_1, ob 2 [.ref a1_2, .ref a2_3, .int (iI 0)]), (a1_2, aI g 27 (fun _ => 0)), (a2_3, aI g 32 (fun _ => 0)), (q_4, ob 2 [.ref a1_5, .ref a2_6, .int (iI 0)]), (a1_5, aI g 27 (fun _ => 0)), (a2_6, aI g 32 (fun _ => 0))]) (cn := 6) (sn := 124) (sn2 := [.ref q_4, .ref h0]) rfl rfl rfl rfl ?_
  refine v_putF fx 0 2 [(h0, ob 3 [.int (iI 0), .ref q_1, .ref q_4, .null, .null, .null, .null, .null, .null]), (q_1, ob 2 [.ref a1_2, .ref a2_3, .int (iI 0)]), (a1_2, aI g 27 (fun _ => 0)), (a2_3, aI g 32 (fun _ => 0)), (q_4, ob 2 [.ref a1_5, .ref a2_6, .int (iI 0)]), (a1_5, aI g 27 (fun _ => 0)), (a2_6, aI g 32 (fun _ => 0))] hnm inX3 tyX3_ok nmX3 k250 dX3_init_23 rfl rfl (by decide) rfl rfl rfl rfl rfl (nl rfl) rfl rfl ?_
  refine v_aload_n fx 0 dX3_init_26 rfl rfl ?_
  refine v_bipush fx dX3_init_27 (by decide +kernel) rfl ?_
  refine v_newa fx 2 .boolean 25 (25, .inl (fun _ => 0)) 7 149 k200 dX3_init_29 rfl rfl rfl (by omega) rfl (fun cA => arr0_boolean cA _) (by decide) (nl rfl) (nl rfl) rfl rfl rfl (fun q_7 => ?_)
  refine v_is (wn := [(h0, ob 3 [.int (iI 0), .ref q_1, .ref q_4, .null, .null, .null, .null, .null, .null]), (q_1, ob 2 [.ref a1_2, .ref a2_3, .int (iI 0)]), (a1_2, aI g 27 (fun _ => 0)), (a2_3, aI g 32 (fun _ => 0)), (q_4, ob 2 [.ref a1_5, .ref a2_6, .int (iI 0)]), (a1_5, aI g 27 (fun _ => 0)), (a2_6, aI g 32 (fun _ => 0)), (q_7, aZ g 25 (fun _ => 0))]) (cn := 7) (sn := 149) (sn2 := [.ref q_7, .ref h0]) rfl rfl rfl rfl ?_
  refine v_putF fx 0 3 [(h0, ob 3 [.int (iI 0), .ref q_1, .ref q_4, .ref q_7, .null, .null, .null, .null, .null]), (q_1, ob 2 [.ref a1_2, .ref a2_3, .int (iI 0)]), (a1_2, aI g 27 (fun _ => 0)), (a2_3, aI g 32 (fun _ => 0)), (q_4, ob 2 [.ref a1_5, .ref a2_6, .int (iI 0)]), (a1_5, aI g 27 (fun _ => 0)), (a2_6, aI g 32 (fun _ => 0)), (q_7, aZ g 25 (fun _ => 0))] hnm inX3 tyX3_ok nmX3 k251 dX3_init_31 rfl rfl (by decide) rfl rfl rfl rfl rfl (nl rfl) rfl rfl ?_
  refine v_aload_n fx 0 dX3_init_34 rfl rfl ?_
  refine v_new (ci := 1) fx [.null, .int (iI 0)] 8 151 inX1 tyX1_ok k187 k188 k54 dX3_init_35 rfl (fun j hj => by rcases (show j = 0 ∨ j = 1 by omega) with rfl | rfl <;> rfl) (nl rfl) (nl rfl) rfl rfl rfl (fun q_8 => ?_)
  refine v_is (wn := [(h0, ob 3 [.int (iI 0), .ref q_1, .ref q_4, .ref q_7, .null, .null, .null, .null, .null]), (q_1, ob 2 [.ref a1_2, .ref a2_3, .int (iI 0)]), (a1_2, aI g 27 (fun _ => 0)), (a2_3, aI g 32 (fun _ => 0)), (q_4, ob 2 [.ref a1_5, .ref a2_6, .int (iI 0)]), (a1_5, aI g 27 (fun _ => 0)), (a2_6, aI g 32 (fun _ => 0)), (q_7, aZ g 25 (fun _ => 0)), (q_8, ob 1 [.null, .int (iI 0)])]) (cn := 8) (sn := 151) (sn2 := [.ref q_8, .ref h0]) rfl rfl rfl rfl ?_
  refine v_dup fx dX3_init_38 rfl rfl ?_
  refine v_callIN (As := []) (rest := [.ref q_8, .ref h0]) fx [8] [0, 1, 2, 3, 4, 5, 6, 7] [(q_8, ob 1 [.null, .int (iI 0)])] [(h0, ob 3 [.int (iI 0), .ref q_1, .ref q_4, .ref q_7, .null, .null, .null, .null, .null]), (q_1, ob 2 [.ref a1_2, .ref a2_3, .int (iI 0)]), (a1_2, aI g 27 (fun _ => 0)), (a2_3, aI g 32 (fun _ => 0)), (q_4, ob 2 [.ref a1_5, .ref a2_6, .int (iI 0)]), (a1_5, aI g 27 (fun _ => 0)), (a2_6, aI g 32 (fun _ => 0)), (q_7, aZ g 25 (fun _ => 0))] 0 (c_X1_init l g q_8 ) dX3_init_39 n189 k190 rfl k54 k191 ykX1_init rfl rfl rfl rfl rfl (nl rfl) ⟨nl rfl, nl rfl⟩ ⟨(nl rfl), (nl rfl)⟩ rfl (fun v9 w9 hu => ?_)
  obtain ⟨h1_9, rfl, rfl⟩ := hu
  refine v_is (wn := [(h0, ob 3 [.int (iI 0), .ref q_1, .ref q_4, .ref q_7, .null, .null, .null, .null, .null]), (q_1, ob 2 [.ref a1_2, .ref a2_3, .int (iI 0)]), (a1_2, aI g 27 (fun _ => 0)), (a2_3, aI g 32 (fun _ => 0)), (q_4, ob 2 [.ref a1_5, .ref a2_6, .int (iI 0)]), (a1_5, aI g 27 (fun _ => 0)), (a2_6, aI g 32 (fun _ => 0)), (q_7, aZ g 25 (fun _ => 0)), (q_8, ob 1 [.ref h1_9, .int (iI 1)]), (h1_9, aI g 64 (fun _ => 0))]) (cn := 9) (sn := 215) (sn2 := [.ref q_8, .ref h0]) rfl rfl rfl rfl ?_
  refine v_putF fx 0 4 [(h0, ob 3 [.int (iI 0), .ref q_1, .ref q_4, .ref q_7, .ref q_8, .null, .null, .null, .null]), (q_1, ob 2 [.ref a1_2, .ref a2_3, .int (iI 0)]), (a1_2, aI g 27 (fun _ => 0)), (a2_3, aI g 32 (fun _ => 0)), (q_4, ob 2 [.ref a1_5, .ref a2_6, .int (iI 0)]), (a1_5, aI g 27 (fun _ => 0)), (a2_6, aI g 32 (fun _ => 0)), (q_7, aZ g 25 (fun _ => 0)), (q_8, ob 1 [.ref h1_9, .int (iI 1)]), (h1_9, aI g 64 (fun _ => 0))] hnm inX3 tyX3_ok nmX3 k252 dX3_init_42 rfl rfl (by decide) rfl rfl rfl rfl rfl (nl rfl) rfl rfl ?_
  refine v_aload_n fx 0 dX3_init_45 rfl rfl ?_
  refine v_new (ci := 1) fx [.null, .int (iI 0)] 10 217 inX1 tyX1_ok k187 k188 k54 dX3_init_46 rfl (fun j hj => by rcases (show j = 0 ∨ j = 1 by omega) with rfl | rfl <;> rfl) (nl rfl) (nl rfl) rfl rfl rfl (fun q_10 => ?_)
  refine v_is (wn := [(h0, ob 3 [.int (iI 0), .ref q_1, .ref q_4, .ref q_7, .ref q_8, .null, .null, .null, .null]), (q_1, ob 2 [.ref a1_2, .ref a2_3, .int (iI 0)]), (a1_2, aI g 27 (fun _ => 0)), (a2_3, aI g 32 (fun _ => 0)), (q_4, ob 2 [.ref a1_5, .ref a2_6, .int (iI 0)]), (a1_5, aI g 27 (fun _ => 0)), (a2_6, aI g 32 (fun _ => 0)), (q_7, aZ g 25 (fun _ => 0)), (q_8, ob 1 [.ref h1_9, .int (iI 1)]), (h1_9, aI g 64 (fun _ => 0)), (q_10, ob 1 [.null, .int (iI 0)])]) (cn := 10) (sn := 217) (sn2 := [.ref q_10, .ref h0]) rfl rfl rfl rfl ?_
  refine v_dup fx dX3_init_49 rfl rfl ?_
  refine v_callIN (As := []) (rest := [.ref q_10, .ref h0]) fx [10] [0, 1, 2, 3, 4, 5, 6, 7, 8, 9] [(q_10, ob 1 [.null, .int (iI 0)])] [(h0, ob 3 [.int (iI 0), .ref q_1, .ref q_4, .ref q_7, .ref q_8, .null, .null, .null, .null]), (q_1, ob 2 [.ref a1_2, .ref a2_3, .int (iI 0)]), (a1_2, aI g 27 (fun _ => 0)), (a2_3, aI g 32 (fun _ => 0)), (q_4, ob 2 [.ref a1_5, .ref a2_6, .int (iI 0)]), (a1_5, aI g 27 (fun _ => 0)), (a2_6, aI g 32 (fun _ => 0)), (q_7, aZ g 25 (fun _ => 0)), (q_8, ob 1 [.ref h1_9, .int (iI 1)]), (h1_9, aI g 64 (fun _ => 0))] 0 (c_X1_init l g q_10 ) dX3_init_50 n189 k190 rfl k54 k191 ykX1_init rfl rfl rfl rfl rfl (nl rfl) ⟨nl rfl, nl rfl⟩ ⟨(nl rfl), (nl rfl)⟩ rfl (fun v9 w9 hu => ?_)
  obtain ⟨h1_11, rfl, rfl⟩ := hu
  refine v_is (wn := [(h0, ob 3 [.int (iI 0), .ref q_1, .ref q_4, .ref q_7, .ref q_8, .null, .null, .null, .null]), (q_1, ob 2 [.ref a1_2, .ref a2_3, .int (iI 0)]), (a1_2, aI g 27 (fun _ => 0)), (a2_3, aI g 32 (fun _ => 0)), (q_4, ob 2 [.ref a1_5, .ref a2_6, .int (iI 0)]), (a1_5, aI g 27 (fun _ => 0)), (a2_6, aI g 32 (fun _ => 0)), (q_7, aZ g 25 (fun _ => 0)), (q_8, ob 1 [.ref h1_9, .int (iI 1)]), (h1_9, aI g 64 (fun _ => 0)), (q_10, ob 1 [.ref h1_11, .int (iI 1)]), (h1_11, aI g 64 (fun _ => 0))]) (cn := 11) (sn := 281) (sn2 := [.ref q_10, .ref h0]) rfl rfl rfl rfl ?_
  refine v_putF fx 0 5 [(h0, ob 3 [.int (iI 0), .ref q_1, .ref q_4, .ref q_7, .ref q_8, .ref q_10, .null, .null, .null]), (q_1, ob 2 [.ref a1_2, .ref a2_3, .int (iI 0)]), (a1_2, aI g 27 (fun _ => 0)), (a2_3, aI g 32 (fun _ => 0)), (q_4, ob 2 [.ref a1_5, .ref a2_6, .int (iI 0)]), (a1_5, aI g 27 (fun _ => 0)), (a2_6, aI g 32 (fun _ => 0)), (q_7, aZ g 25 (fun _ => 0)), (q_8, ob 1 [.ref h1_9, .int (iI 1)]), (h1_9, aI g 64 (fun _ => 0)), (q_10, ob 1 [.ref h1_11, .int (iI 1)]), (h1_11, aI g 64 (fun _ => 0))] hnm inX3 tyX3_ok nmX3 k253 dX3_init_53 rfl rfl (by decide) rfl rfl rfl rfl rfl (nl rfl) rfl rfl ?_
  refine v_aload_n fx 0 dX3_init_56 rfl rfl ?_
  refine v_new (ci := 1) fx [.null, .int (iI 0)] 12 283 inX1 tyX1_ok k187 k188 k54 dX3_init_57 rfl (fun j hj => by rcases (show j = 0 ∨ j = 1 by omega) with rfl | rfl <;> rfl) (nl rfl) (nl rfl) rfl rfl rfl (fun q_12 => ?_)
  refine v_is (wn := [(h0, ob 3 [.int (iI 0), .ref q_1, .ref q_4, .ref q_7, .ref q_8, .ref q_10, .null, .null, .null]), (q_1, ob 2 [.ref a1_2, .ref a2_3, .int (iI 0)]), (a1_2, aI g 27 (fun _ => 0)), (a2_3, aI g 32 (fun _ => 0)), (q_4, ob 2 [.ref a1_5, .ref a2_6, .int (iI 0)]), (a1_5, aI g 27 (fun _ => 0)), (a2_6, aI g 32 (fun _ => 0)), (q_7, aZ g 25 (fun _ => 0)), (q_8, ob 1 [.ref h1_9, .int (iI 1)]), (h1_9, aI g 64 (fun _ => 0)), (q_10, ob 1 [.ref h1_11, .int (iI 1)]), (h1_11, aI g 64 (fun _ => 0)), (q_12, ob 1 [.null, .int (iI 0)])]) (cn := 12) (sn := 283) (sn2 := [.ref q_12, .ref h0]) rfl rfl rfl rfl ?_
  refine v_dup fx dX3_init_60 rfl rfl ?_
  refine v_callIN (As := []) (rest := [.ref q_12, .ref h0]) fx [12] [0, 1, 2, 3, 4, 5, 6, 7, 8, 9, 10, 11] [(q_12, ob 1 [.null, .int (iI 0)])] [(h0, ob 3 [.int (iI 0), .ref q_1, .ref q_4, .ref q_7, .ref q_8, .ref q_10, .null, .null, .null]), (q_1, ob 2 [.ref a1_2, .ref a2_3, .int (iI 0)]), (a1_2, aI g 27 (fun _ => 0)), (a2_3, aI g 32 (fun _ => 0)), (q_4, ob 2 [.ref a1_5, .ref a2_6, .int (iI 0)]), (a1_5, aI g 27 (fun _ => 0)), (a2_6, aI g 32 (fun _ => 0)), (q_7, aZ g 25 (fun _ => 0)), (q_8, ob 1 [.ref h1_9, .int (iI 1)]), (h1_9, aI g 64 (fun _ => 0)), (q_10, ob 1 [.ref h1_11, .int (iI 1)]), (h1_11, aI g 64 (fun _ => 0))] 0 (c_X1_init l g q_12 ) dX3_init_61 n189 k190 rfl k54 k191 ykX1_init rfl rfl rfl rfl rfl (nl rfl) ⟨nl rfl, nl rfl⟩ ⟨(nl rfl), (nl rfl)⟩ rfl (fun v9 w9 hu => ?_)
  obtain ⟨h1_13, rfl, rfl⟩ := hu
  refine v_is (wn := [(h0, ob 3 [.int (iI 0), .ref q_1, .ref q_4, .ref q_7, .ref q_8, .ref q_10, .null, .null, .null]), (q_1, ob 2 [.ref a1_2, .ref a2_3, .int (iI 0)]), (a1_2, aI g 27 (fun _ => 0)), (a2_3, aI g 32 (fun _ => 0)), (q_4, ob 2 [.ref a1_5, .ref a2_6, .int (iI 0)]), (a1_5, aI g 27 (fun _ => 0)), (a2_6, aI g 32 (fun _ => 0)), (q_7, aZ g 25 (fun _ => 0)), (q_8, ob 1 [.ref h1_9, .int (iI 1)]), (h1_9, aI g 64 (fun _ => 0)), (q_10, ob 1 [.ref h1_11, .int (iI 1)]), (h1_11, aI g 64 (fun _ => 0)), (q_12, ob 1 [.ref h1_13, .int (iI 1)]), (h1_13, aI g 64 (fun _ => 0))]) (cn := 13) (sn := 347) (sn2 := [.ref q_12, .ref h0]) rfl rfl rfl rfl ?_
  refine v_putF fx 0 6 [(h0, ob 3 [.int (iI 0), .ref q_1, .ref q_4, .ref q_7, .ref q_8, .ref q_10, .ref q_12, .null, .null]), (q_1, ob 2 [.ref a1_2, .ref a2_3, .int (iI 0)]), (a1_2, aI g 27 (fun _ => 0)), (a2_3, aI g 32 (fun _ => 0)), (q_4, ob 2 [.ref a1_5, .ref a2_6, .int (iI 0)]), (a1_5, aI g 27 (fun _ => 0)), (a2_6, aI g 32 (fun _ => 0)), (q_7, aZ g 25 (fun _ => 0)), (q_8, ob 1 [.ref h1_9, .int (iI 1)]), (h1_9, aI g 64 (fun _ => 0)), (q_10, ob 1 [.ref h1_11, .int (iI 1)]), (h1_11, aI g 64 (fun _ => 0)), (q_12, ob 1 [.ref h1_13, .int (iI 1)]), (h1_13, aI g 64 (fun _ => 0))] hnm inX3 tyX3_ok nmX3 k254 dX3_init_64 rfl rfl (by decide) rfl rfl rfl rfl rfl (nl rfl) rfl rfl ?_
  refine v_aload_n fx 0 dX3_init_67 rfl rfl ?_
  refine v_iload_n fx 1 dX3_init_68 rfl rfl ?_
  refine v_putF fx 0 0 [(h0, ob 3 [.int (iI w), .ref q_1, .ref q_4, .ref q_7, .ref q_8, .ref q_10, .ref q_12, .null, .null]), (q_1, ob 2 [.ref a1_2, .ref a2_3, .int (iI 0)]), (a1_2, aI g 27 (fun _ => 0)), (a2_3, aI g 32 (fun _ => 0)), (q_4, ob 2 [.ref a1_5, .ref a2_6, .int (iI 0)]), (a1_5, aI g 27 (fun _ => 0)), (a2_6, aI g 32 (fun _ => 0)), (q_7, aZ g 25 (fun _ => 0)), (q_8, ob 1 [.ref h1_9, .int (iI 1)]), (h1_9, aI g 64 (fun _ => 0)), (q_10, ob 1 [.ref h1_11, .int (iI 1)]), (h1_11, aI g 64 (fun _ => 0)), (q_12, ob 1 [.ref h1_13, .int (iI 1)]), (h1_13, aI g 64 (fun _ => 0))] hnm inX3 tyX3_ok nmX3 k248 dX3_init_69 rfl rfl (by decide) rfl rfl rfl rfl rfl (nl rfl) rfl rfl ?_
  refine v_aload_n fx 0 dX3_init_72 rfl rfl ?_
  refine v_get fx 0 4 inX3 k252 dX3_init_73 rfl rfl (by decide) rfl rfl rfl ?_
  refine v_getsN fx 0 (by decide) n201 dX3_init_76 rfl ?_
  refine v_iconst fx dX3_init_79 rfl ?_
  refine v_callVE (As := [.ref (g.2.2.1 0), .int (iI 0)]) (rest := []) fx [8, 9] [0, 1, 2, 3, 4, 5, 6, 7, 10, 11, 12, 13] [(q_8, ob 1 [.ref h1_9, .int (iI 1)]), (h1_9, aI g 64 (fun _ => 0))] [(h0, ob 3 [.int (iI w), .ref q_1, .ref q_4, .ref q_7, .ref q_8, .ref q_10, .ref q_12, .null, .null]), (q_1, ob 2 [.ref a1_2, .ref a2_3, .int (iI 0)]), (a1_2, aI g 27 (fun _ => 0)), (a2_3, aI g 32 (fun _ => 0)), (q_4, ob 2 [.ref a1_5, .ref a2_6, .int (iI 0)]), (a1_5, aI g 27 (fun _ => 0)), (a2_6, aI g 32 (fun _ => 0)), (q_7, aZ g 25 (fun _ => 0)), (q_10, ob 1 [.ref h1_11, .int (iI 1)]), (h1_11, aI g 64 (fun _ => 0)), (q_12, ob 1 [.ref h1_13, .int (iI 1)]), (h1_13, aI g 64 (fun _ => 0))] 2 0 (c_X1_addAll l g q_8 h1_9 64 (fun _ => 0) 1 0 0 (by first | omega | decide | assumption) (by first | omega | decide | assumption) (by first | omega | decide | assumption) (by first | omega | decide | assumption) (by first | omega | decide | assumption) (by first | exact lo_0 | assumption)) dX3_init_80 k203 k204 k205 k54 k206 ykX1_addAll rfl rfl rfl rfl rfl rfl rfl rfl (nl rfl) ⟨nl rfl, nl rfl⟩ ⟨(nl rfl), (nl rfl)⟩ rfl (fun v9 w9 kc_14 ks_15 hu => ?_)
  obtain ⟨nd2_16, n2_17, f2_18, h2_19, rfl, rfl, u_20, u_21, u_22, u_23, u_24⟩ := hu
  refine v_is (wn := [(h0, ob 3 [.int (iI w), .ref q_1, .ref q_4, .ref q_7, .ref q_8, .ref q_10, .ref q_12, .null, .null]), (q_1, ob 2 [.ref a1_2, .ref a2_3, .int (iI 0)]), (a1_2, aI g 27 (fun _ => 0)), (a2_3, aI g 32 (fun _ => 0)), (q_4, ob 2 [.ref a1_5, .ref a2_6, .int (iI 0)]), (a1_5, aI g 27 (fun _ => 0)), (a2_6, aI g 32 (fun _ => 0)), (q_7, aZ g 25 (fun _ => 0)), (q_10, ob 1 [.ref h1_11, .int (iI 1)]), (h1_11, aI g 64 (fun _ => 0)), (q_12, ob 1 [.ref h1_13, .int (iI 1)]), (h1_13, aI g 64 (fun _ => 0)), (q_8, ob 1 [.ref h2_19, .int (iI nd2_16)]), (h2_19, aI g n2_17 f2_18)]) (cn := 13 + kc_14) (sn := 347 + ks_15) (sn2 := []) rfl rfl rfl rfl ?_
  refine v_aload_n fx 0 dX3_init_83 rfl rfl ?_
  refine v_get fx 0 4 inX3 k252 dX3_init_84 rfl rfl (by decide) rfl rfl rfl ?_
  refine v_getsN fx 2 (by decide) n240 dX3_init_87 rfl ?_
  refine v_getsN fx 0 (by decide) n201 dX3_init_90 rfl ?_
  refine v_tlen (n := 91) fx 0 (by decide) rfl dX3_init_93 rfl ?_
  refine v_callVE (As := [.ref (g.2.2.1 2), .int (iI 91)]) (rest := []) fx [12, 13] [0, 1, 2, 3, 4, 5, 6, 7, 8, 9, 10, 11] [(q_8, ob 1 [.ref h2_19, .int (iI nd2_16)]), (h2_19, aI g n2_17 f2_18)] [(h0, ob 3 [.int (iI w), .ref q_1, .ref q_4, .ref q_7, .ref q_8, .ref q_10, .ref q_12, .null, .null]), (q_1, ob 2 [.ref a1_2, .ref a2_3, .int (iI 0)]), (a1_2, aI g 27 (fun _ => 0)), (a2_3, aI g 32 (fun _ => 0)), (q_4, ob 2 [.ref a1_5, .ref a2_6, .int (iI 0)]), (a1_5, aI g 27 (fun _ => 0)), (a2_6, aI g 32 (fun _ => 0)), (q_7, aZ g 25 (fun _ => 0)), (q_10, ob 1 [.ref h1_11, .int (iI 1)]), (h1_11, aI g 64 (fun _ => 0)), (q_12, ob 1 [.ref h1_13, .int (iI 1)]), (h1_13, aI g 64 (fun _ => 0))] 2 0 (c_X1_addAll l g q_8 h2_19 n2_17 f2_18 nd2_16 2 91 (by first | omega | decide | assumption) (by first | omega | decide | assumption) (by first | omega | decide | assumption) (by first | omega | decide | assumption) (by first | omega | decide | assumption) (by first | exact lo_0 | assumption)) dX3_init_94 k203 k204 k205 k54 k206 ykX1_addAll rfl rfl rfl rfl rfl rfl rfl rfl (nl rfl) ⟨nl rfl, nl rfl⟩ ⟨(by show (13 + kc_14) + 1200 ≤ 6000; omega), (by show (347 + ks_15) + 35000 ≤ 80000; omega)⟩ rfl (fun v9 w9 kc_25 ks_26 hu => ?_)
  obtain ⟨nd2_27, n2_28, f2_29, h2_30, rfl, rfl, u_31, u_32, u_33, u_34, u_35⟩ := hu
  refine v_is (wn := [(h0, ob 3 [.int (iI w), .ref q_1, .ref q_4, .ref q_7, .ref q_8, .ref q_10, .ref q_12, .null, .null]), (q_1, ob 2 [.ref a1_2, .ref a2_3, .int (iI 0)]), (a1_2, aI g 27 (fun _ => 0)), (a2_3, aI g 32 (fun _ => 0)), (q_4, ob 2 [.ref a1_5, .ref a2_6, .int (iI 0)]), (a1_5, aI g 27 (fun _ => 0)), (a2_6, aI g 32 (fun _ => 0)), (q_7, aZ g 25 (fun _ => 0)), (q_10, ob 1 [.ref h1_11, .int (iI 1)]), (h1_11, aI g 64 (fun _ => 0)), (q_12, ob 1 [.ref h1_13, .int (iI 1)]), (h1_13, aI g 64 (fun _ => 0)), (q_8, ob 1 [.ref h2_30, .int (iI nd2_27)]), (h2_30, aI g n2_28 f2_29)]) (cn := 13 + kc_14 + kc_25) (sn := 347 + ks_15 + ks_26) (sn2 := []) rfl rfl rfl rfl ?_
  refine v_aload_n fx 0 dX3_init_97 rfl rfl ?_
  refine v_get fx 0 5 inX3 k253 dX3_init_98 rfl rfl (by decide) rfl rfl rfl ?_
  refine v_getsN fx 1 (by decide) n242 dX3_init_101 rfl ?_
  refine v_iconst fx dX3_init_104 rfl ?_
  refine v_callVE (As := [.ref (g.2.2.1 1), .int (iI 0)]) (rest := []) fx [8, 9] [0, 1, 2, 3, 4, 5, 6, 7, 10, 11, 12, 13] [(q_10, ob 1 [.ref h1_11, .int (iI 1)]), (h1_11, aI g 64 (fun _ => 0))] [(h0, ob 3 [.int (iI w), .ref q_1, .ref q_4, .ref q_7, .ref q_8, .ref q_10, .ref q_12, .null, .null]), (q_1, ob 2 [.ref a1_2, .ref a2_3, .int (iI 0)]), (a1_2, aI g 27 (fun _ => 0)), (a2_3, aI g 32 (fun _ => 0)), (q_4, ob 2 [.ref a1_5, .ref a2_6, .int (iI 0)]), (a1_5, aI g 27 (fun _ => 0)), (a2_6, aI g 32 (fun _ => 0)), (q_7, aZ g 25 (fun _ => 0)), (q_12, ob 1 [.ref h1_13, .int (iI 1)]), (h1_13, aI g 64 (fun _ => 0)), (q_8, ob 1 [.ref h2_30, .int (iI nd2_27)]), (h2_30, aI g n2_28 f2_29)] 2 0 (c_X1_addAll l g q_10 h1_11 64 (fun _ => 0) 1 1 0 (by first | omega | decide | assumption) (by first | omega | decide | assumption) (by first | omega | decide | assumption) (by first | omega | decide | assumption) (by first | omega | decide | assumption) (by first | exact lo_0 | assumption)) dX3_init_105 k203 k204 k205 k54 k206 ykX1_addAll rfl rfl rfl rfl rfl rfl rfl rfl (nl rfl) ⟨nl rfl, nl rfl⟩ ⟨(by show (13 + kc_14 + kc_25) + 1200 ≤ 6000; omega), (by show (347 + ks_15 + ks_26) + 35000 ≤ 80000; omega)⟩ rfl (fun v9 w9 kc_36 ks_37 hu => ?_)
  obtain ⟨nd2_38, n2_39, f2_40, h2_41, rfl, rfl, u_42, u_43, u_44, u_45, u_46⟩ := hu
  refine v_is (wn := [(h0, ob 3 [.int (iI w), .ref q_1, .ref q_4, .ref q_7, .ref q_8, .ref q_10, .ref q_12, .null, .null]), (q_1, ob 2 [.ref a1_2, .ref a2_3, .int (iI 0)]), (a1_2, aI g 27 (fun _ => 0)), (a2_3, aI g 32 (fun _ => 0)), (q_4, ob 2 [.ref a1_5, .ref a2_6, .int (iI 0)]), (a1_5, aI g 27 (fun _ => 0)), (a2_6, aI g 32 (fun _ => 0)), (q_7, aZ g 25 (fun _ => 0)), (q_12, ob 1 [.ref h1_13, .int (iI 1)]), (h1_13, aI g 64 (fun _ => 0)), (q_8, ob 1 [.ref h2_30, .int (iI nd2_27)]), (h2_30, aI g n2_28 f2_29), (q_10, ob 1 [.ref h2_41, .int (iI nd2_38)]), (h2_41, aI g n2_39 f2_40)]) (cn := 13 + kc_14 + kc_25 + kc_36) (sn := 347 + ks_15 + ks_26 + ks_37) (sn2 := []) rfl rfl rfl rfl ?_
  refine v_aload_n fx 0 dX3_init_108 rfl rfl ?_
  refine v_get fx 0 5 inX3 k253 dX3_init_109 rfl rfl (by decide) rfl rfl rfl ?_
  refine v_getsN fx 2 (by decide) n240 dX3_init_112 rfl ?_
  refine v_getsN fx 1 (by decide) n242 dX3_init_115 rfl ?_
  refine v_tlen (n := 91) fx 1 (by decide) rfl dX3_init_118 rfl ?_
  refine v_callVE (As := [.ref (g.2.2.1 2), .int (iI 91)]) (rest := []) fx [12, 13] [0, 1, 2, 3, 4, 5, 6, 7, 8, 9, 10, 11] [(q_10, ob 1 [.ref h2_41, .int (iI nd2_38)]), (h2_41, aI g n2_39 f2_40)] [(h0, ob 3 [.int (iI w), .ref q_1, .ref q_4, .ref q_7, .ref q_8, .ref q_10, .ref q_12, .null, .null]), (q_1, ob 2 [.ref a1_2, .ref a2_3, .int (iI 0)]), (a1_2, aI g 27 (fun _ => 0)), (a2_3, aI g 32 (fun _ => 0)), (q_4, ob 2 [.ref a1_5, .ref a2_6, .int (iI 0)]), (a1_5, aI g 27 (fun _ => 0)), (a2_6, aI g 32 (fun _ => 0)), (q_7, aZ g 25 (fun _ => 0)), (q_12, ob 1 [.ref h1_13, .int (iI 1)]), (h1_13, aI g 64 (fun _ => 0)), (q_8, ob 1 [.ref h2_30, .int (iI nd2_27)]), (h2_30, aI g n2_28 f2_29)] 2 0 (c_X1_addAll l g q_10 h2_41 n2_39 f2_40 nd2_38 2 91 (by first | omega | decide | assumption) (by first | omega | decide | assumption) (by first | omega | decide | assumption) (by first | omega | decide | assumption) (by first | omega | decide | assumption) (by first | exact lo_0 | assumption)) dX3_init_119 k203 k204 k205 k54 k206 ykX1_addAll rfl rfl rfl rfl rfl rfl rfl rfl (nl rfl) ⟨nl rfl, nl rfl⟩ ⟨(by show (13 + kc_14 + kc_25 + kc_36) + 1200 ≤ 6000; omega), (by show (347 + ks_15 + ks_26 + ks_37) + 35000 ≤ 80000; omega)⟩ rfl (fun v9 w9 kc_47 ks_48 hu => ?_)
  obtain ⟨nd2_49, n2_50, f2_51, h2_52, rfl, rfl, u_53, u_54, u_55, u_56, u_57⟩ := hu
  refine v_is (wn := [(h0, ob 3 [.int (iI w), .ref q_1, .ref q_4, .ref q_7, .ref q_8, .ref q_10, .ref q_12, .null, .null]), (q_1, ob 2 [.ref a1_2, .ref a2_3, .int (iI 0)]), (a1_2, aI g 27 (fun _ => 0)), (a2_3, aI g 32 (fun _ => 0)), (q_4, ob 2 [.ref a1_5, .ref a2_6, .int (iI 0)]), (a1_5, aI g 27 (fun _ => 0)), (a2_6, aI g 32 (fun _ => 0)), (q_7, aZ g 25 (fun _ => 0)), (q_12, ob 1 [.ref h1_13, .int (iI 1)]), (h1_13, aI g 64 (fun _ => 0)), (q_8, ob 1 [.ref h2_30, .int (iI nd2_27)]), (h2_30, aI g n2_28 f2_29), (q_10, ob 1 [.ref h2_52, .int (iI nd2_49)]), (h2_52, aI g n2_50 f2_51)]) (cn := 13 + kc_14 + kc_25 + kc_36 + kc_47) (sn := 347 + ks_15 + ks_26 + ks_37 + ks_48) (sn2 := []) rfl rfl rfl rfl ?_
  refine v_aload_n fx 0 dX3_init_122 rfl rfl ?_
  refine v_get fx 0 6 inX3 k254 dX3_init_123 rfl rfl (by decide) rfl rfl rfl ?_
  refine v_getsN fx 3 (by decide) n244 dX3_init_126 rfl ?_
  refine v_iconst fx dX3_init_129 rfl ?_
  refine v_callVE (As := [.ref (g.2.2.1 3), .int (iI 0)]) (rest := []) fx [8, 9] [0, 1, 2, 3, 4, 5, 6, 7, 10, 11, 12, 13] [(q_12, ob 1 [.ref h1_13, .int (iI 1)]), (h1_13, aI g 64 (fun _ => 0))] [(h0, ob 3 [.int (iI w), .ref q_1, .ref q_4, .ref q_7, .ref q_8, .ref q_10, .ref q_12, .null, .null]), (q_1, ob 2 [.ref a1_2, .ref a2_3, .int (iI 0)]), (a1_2, aI g 27 (fun _ => 0)), (a2_3, aI g 32 (fun _ => 0)), (q_4, ob 2 [.ref a1_5, .ref a2_6, .int (iI 0)]), (a1_5, aI g 27 (fun _ => 0)), (a2_6, aI g 32 (fun _ => 0)), (q_7, aZ g 25 (fun _ => 0)), (q_8, ob 1 [.ref h2_30, .int (iI nd2_27)]), (h2_30, aI g n2_28 f2_29), (q_10, ob 1 [.ref h2_52, .int (iI nd2_49)]), (h2_52, aI g n2_50 f2_51)] 2 0 (c_X1_addAll l g q_12 h1_13 64 (fun _ => 0) 1 3 0 (by first | omega | decide | assumption) (by first | omega | decide | assumption) (by first | omega | decide | assumption) (by first | omega | decide | assumption) (by first | omega | decide | assumption) (by first | exact lo_0 | assumption)) dX3_init_130 k203 k204 k205 k54 k206 ykX1_addAll rfl rfl rfl rfl rfl rfl rfl rfl (nl rfl) ⟨nl rfl, nl rfl⟩ ⟨(by show (13 + kc_14 + kc_25 + kc_36 + kc_47) + 1200 ≤ 6000; omega), (by show (347 + ks_15 + ks_26 + ks_37 + ks_48) + 35000 ≤ 80000; omega)⟩ rfl (fun v9 w9 kc_58 ks_59 hu => ?_)
  obtain ⟨nd2_60, n2_61, f2_62, h2_63, rfl, rfl, u_64, u_65, u_66, u_67, u_68⟩ := hu
  refine v_is (wn := [(h0, ob 3 [.int (iI w), .ref q_1, .ref q_4, .ref q_7, .ref q_8, .ref q_10, .ref q_12, .null, .null]), (q_1, ob 2 [.ref a1_2, .ref a2_3, .int (iI 0)]), (a1_2, aI g 27 (fun _ => 0)), (a2_3, aI g 32 (fun _ => 0)), (q_4, ob 2 [.ref a1_5, .ref a2_6, .int (iI 0)]), (a1_5, aI g 27 (fun _ => 0)), (a2_6, aI g 32 (fun _ => 0)), (q_7, aZ g 25 (fun _ => 0)), (q_8, ob 1 [.ref h2_30, .int (iI nd2_27)]), (h2_30, aI g n2_28 f2_29), (q_10, ob 1 [.ref h2_52, .int (iI nd2_49)]), (h2_52, aI g n2_50 f2_51), (q_12, ob 1 [.ref h2_63, .int (iI nd2_60)]), (h2_63, aI g n2_61 f2_62)]) (cn := 13 + kc_14 + kc_25 + kc_36 + kc_47 + kc_58) (sn := 347 + ks_15 + ks_26 + ks_37 + ks_48 + ks_59) (sn2 := []) rfl rfl rfl rfl ?_
  refine v_aload_n fx 0 dX3_init_133 rfl rfl ?_
  refine v_aload_n fx 2 dX3_init_134 rfl rfl ?_
  refine v_put fx 0 8 [(h0, ob 3 [.int (iI w), .ref q_1, .ref q_4, .ref q_7, .ref q_8, .ref q_10, .ref q_12, .null, .ref src]), (q_1, ob 2 [.ref a1_2, .ref a2_3, .int (iI 0)]), (a1_2, aI g 27 (fun _ => 0)), (a2_3, aI g 32 (fun _ => 0)), (q_4, ob 2 [.ref a1_5, .ref a2_6, .int (iI 0)]), (a1_5, aI g 27 (fun _ => 0)), (a2_6, aI g 32 (fun _ => 0)), (q_7, aZ g 25 (fun _ => 0)), (q_8, ob 1 [.ref h2_30, .int (iI nd2_27)]), (h2_30, aI g n2_28 f2_29), (q_10, ob 1 [.ref h2_52, .int (iI nd2_49)]), (h2_52, aI g n2_50 f2_51), (q_12, ob 1 [.ref h2_63, .int (iI nd2_60)]), (h2_63, aI g n2_61 f2_62)] inX3 tyX3_ok nmX3 k256 dX3_init_135 rfl rfl (by decide) rfl rfl rfl rfl (nl rfl) rfl rfl ?_
  refine v_aload_n fx 0 dX3_init_138 rfl rfl ?_
  refine v_new (ci := 5) fx [.null, .int (iI 0), .int (iI 0), .int (iI 0), .int (iI 0), .int (iI 0)] (13 + kc_14 + kc_25 + kc_36 + kc_47 + kc_58 + 1) (347 + ks_15 + ks_26 + ks_37 + ks_48 + ks_59 + 6) inX5 tyX5_ok k246 k142 k52 dX3_init_139 rfl (fun j hj => by rcases (show j = 0 ∨ j = 1 ∨ j = 2 ∨ j = 3 ∨ j = 4 ∨ j = 5 by omega) with rfl | rfl | rfl | rfl | rfl | rfl <;> rfl) (by show 13 + kc_14 + kc_25 + kc_36 + kc_47 + kc_58 + 1 ≤ 6000; omega) (by show 347 + ks_15 + ks_26 + ks_37 + ks_48 + ks_59 + 6 ≤ 80000; omega) rfl rfl rfl (fun q_69 => ?_)
  refine v_is (wn := [(h0, ob 3 [.int (iI w), .ref q_1, .ref q_4, .ref q_7, .ref q_8, .ref q_10, .ref q_12, .null, .ref src]), (q_1, ob 2 [.ref a1_2, .ref a2_3, .int (iI 0)]), (a1_2, aI g 27 (fun _ => 0)), (a2_3, aI g 32 (fun _ => 0)), (q_4, ob 2 [.ref a1_5, .ref a2_6, .int (iI 0)]), (a1_5, aI g 27 (fun _ => 0)), (a2_6, aI g 32 (fun _ => 0)), (q_7, aZ g 25 (fun _ => 0)), (q_8, ob 1 [.ref h2_30, .int (iI nd2_27)]), (h2_30, aI g n2_28 f2_29), (q_10, ob 1 [.ref h2_52, .int (iI nd2_49)]), (h2_52, aI g n2_50 f2_51), (q_12, ob 1 [.ref h2_63, .int (iI nd2_60)]), (h2_63, aI g n2_61 f2_62), (q_69, ob 5 [.null, .int (iI 0), .int (iI 0), .int (iI 0), .int (iI 0), .int (iI 0)])]) (cn := 13 + kc_14 + kc_25 + kc_36 + kc_47 + kc_58 + 1) (sn := 347 + ks_15 + ks_26 + ks_37 + ks_48 + ks_59 + 6) (sn2 := [.ref q_69, .ref h0]) rfl rfl rfl rfl ?_
  refine v_dup fx dX3_init_142 rfl rfl ?_
  refine v_aload_n fx 0 dX3_init_143 rfl rfl ?_
  refine v_get fx 0 1 inX3 k249 dX3_init_144 rfl rfl (by decide) rfl rfl rfl ?_
  refine v_iload_n fx 1 dX3_init_147 rfl rfl ?_
  refine v_callI (As := [.ref q_1, .int (iI w)]) (rest := [.ref q_69, .ref h0]) fx [14] [0, 1, 2, 3, 4, 5, 6, 7, 8, 9, 10, 11, 12, 13] [(q_69, ob 5 [.null, .int (iI 0), .int (iI 0), .int (iI 0), .int (iI 0), .int (iI 0)])] [(h0, ob 3 [.int (iI w), .ref q_1, .ref q_4, .ref q_7, .ref q_8, .ref q_10, .ref q_12, .null, .ref src]), (q_1, ob 2 [.ref a1_2, .ref a2_3, .int (iI 0)]), (a1_2, aI g 27 (fun _ => 0)), (a2_3, aI g 32 (fun _ => 0)), (q_4, ob 2 [.ref a1_5, .ref a2_6, .int (iI 0)]), (a1_5, aI g 27 (fun _ => 0)), (a2_6, aI g 32 (fun _ => 0)), (q_7, aZ g 25 (fun _ => 0)), (q_8, ob 1 [.ref h2_30, .int (iI nd2_27)]), (h2_30, aI g n2_28 f2_29), (q_10, ob 1 [.ref h2_52, .int (iI nd2_49)]), (h2_52, aI g n2_50 f2_51), (q_12, ob 1 [.ref h2_63, .int (iI nd2_60)]), (h2_63, aI g n2_61 f2_62)] 2 (c_X5_init l g q_69 q_1 w ) dX3_init_148 k247 k144 rfl k52 k145 ykX5_init rfl rfl rfl rfl rfl (nl rfl) ⟨nl rfl, nl rfl⟩ ⟨(by show (13 + kc_14 + kc_25 + kc_36 + kc_47 + kc_58 + 1) + 0 ≤ 6000; omega), (by show (347 + ks_15 + ks_26 + ks_37 + ks_48 + ks_59 + 6) + 0 ≤ 80000; omega)⟩ rfl (fun v9 w9 hu => ?_)
  obtain ⟨rfl, rfl⟩ := hu
  refine v_is (wn := [(h0, ob 3 [.int (iI w), .ref q_1, .ref q_4, .ref q_7, .ref q_8, .ref q_10, .ref q_12, .null, .ref src]), (q_1, ob 2 [.ref a1_2, .ref a2_3, .int (iI 0)]), (a1_2, aI g 27 (fun _ => 0)), (a2_3, aI g 32 (fun _ => 0)), (q_4, ob 2 [.ref a1_5, .ref a2_6, .int (iI 0)]), (a1_5, aI g 27 (fun _ => 0)), (a2_6, aI g 32 (fun _ => 0)), (q_7, aZ g 25 (fun _ => 0)), (q_8, ob 1 [.ref h2_30, .int (iI nd2_27)]), (h2_30, aI g n2_28 f2_29), (q_10, ob 1 [.ref h2_52, .int (iI nd2_49)]), (h2_52, aI g n2_50 f2_51), (q_12, ob 1 [.ref h2_63, .int (iI nd2_60)]), (h2_63, aI g n2_61 f2_62), (q_69, ob 5 [.ref q_1, .int (iI w), .int (iI 0), .int (iI 0), .int (iI 0), .int (iI 0)])]) (cn := 13 + kc_14 + kc_25 + kc_36 + kc_47 + kc_58 + 1) (sn := 347 + ks_15 + ks_26 + ks_37 + ks_48 + ks_59 + 6) (sn2 := [.ref q_69, .ref h0]) rfl rfl rfl rfl ?_
  refine v_putF fx 0 7 [(h0, ob 3 [.int (iI w), .ref q_1, .ref q_4, .ref q_7, .ref q_8, .ref q_10, .ref q_12, .ref q_69, .ref src]), (q_1, ob 2 [.ref a1_2, .ref a2_3, .int (iI 0)]), (a1_2, aI g 27 (fun _ => 0)), (a2_3, aI g 32 (fun _ => 0)), (q_4, ob 2 [.ref a1_5, .ref a2_6, .int (iI 0)]), (a1_5, aI g 27 (fun _ => 0)), (a2_6, aI g 32 (fun _ => 0)), (q_7, aZ g 25 (fun _ => 0)), (q_8, ob 1 [.ref h2_30, .int (iI nd2_27)]), (h2_30, aI g n2_28 f2_29), (q_10, ob 1 [.ref h2_52, .int (iI nd2_49)]), (h2_52, aI g n2_50 f2_51), (q_12, ob 1 [.ref h2_63, .int (iI nd2_60)]), (h2_63, aI g n2_61 f2_62), (q_69, ob 5 [.ref q_1, .int (iI w), .int (iI 0), .int (iI 0), .int (iI 0), .int (iI 0)])] hnm inX3 tyX3_ok nmX3 k255 dX3_init_151 rfl rfl (by decide) rfl rfl rfl rfl rfl (nl rfl) rfl rfl ?_
  exact v_vret fx [(h0, ob 3 [.int (iI w), .ref q_1, .ref q_4, .ref q_7, .ref q_8, .ref q_10, .ref q_12, .ref q_69, .ref src]), (q_1, ob 2 [.ref a1_2, .ref a2_3, .int (iI 0)]), (a1_2, aI g 27 (fun _ => 0)), (a2_3, aI g 32 (fun _ => 0)), (q_4, ob 2 [.ref a1_5, .ref a2_6, .int (iI 0)]), (a1_5, aI g 27 (fun _ => 0)), (a2_6, aI g 32 (fun _ => 0)), (q_7, aZ g 25 (fun _ => 0)), (q_8, ob 1 [.ref h2_30, .int (iI nd2_27)]), (h2_30, aI g n2_28 f2_29), (q_10, ob 1 [.ref h2_52, .int (iI nd2_49)]), (h2_52, aI g n2_50 f2_51), (q_12, ob 1 [.ref h2_63, .int (iI nd2_60)]), (h2_63, aI g n2_61 f2_62), (q_69, ob 5 [.ref q_1, .int (iI w), .int (iI 0), .int (iI 0), .int (iI 0), .int (iI 0)])] [0, 1, 2, 3, 4, 5, 6, 7, 8, 9, 10, 11, 12, 13, 14] hr dX3_init_154 rfl rfl (by show 13 + kc_14 + kc_25 + kc_36 + kc_47 + kc_58 + 1 ≤ 6000; omega) (by show 347 + ks_15 + ks_26 + ks_37 + ks_48 + ks_59 + 6 ≤ 80000; omega) ⟨q_1, a1_2, a2_3, q_4, a1_5, a2_6, q_7, q_8, h2_30, q_10, h2_52, q_12, h2_63, q_69, n2_28, n2_50, n2_61, f2_29, f2_51, f2_62, (iI nd2_27), (iI nd2_49), (iI nd2_60), rfl, rfl, (by first | omega | rfl | assumption), (by assumption), (by assumption), (by assumption)⟩
theorem dX7_init_0 : decode cX7_init 0 = .ok (.aload_n 0, 1) := by decide +kernel
theorem dX7_init_1 : decode cX7_init 1 = .ok (.invokespecial 1, 3) := by decide +kernel
theorem dX7_init_4 : decode cX7_init 4 = .ok (.aload_n 0, 1) := by decide +kernel
theorem dX7_init_5 : decode cX7_init 5 = .ok (.iconst 0, 1) := by decide +kernel
theorem dX7_init_6 : decode cX7_init 6 = .ok (.iconst 2, 1) := by decide +kernel
theorem dX7_init_7 : decode cX7_init 7 = .ok (.iload_n 1, 1) := by decide +kernel
theorem dX7_init_8 : decode cX7_init 8 = .ok (.invokestatic 9, 3) := by decide +kernel
theorem dX7_init_11 : decode cX7_init 11 = .ok (.invokestatic 15, 3) := by decide +kernel
theorem dX7_init_14 : decode cX7_init 14 = .ok (.putfield 18, 3) := by decide +kernel
theorem dX7_init_17 : decode cX7_init 17 = .ok (.aload_n 0, 1) := by decide +kernel
theorem dX7_init_18 : decode cX7_init 18 = .ok (.iconst 1, 1) := by decide +kernel
theorem dX7_init_19 : decode cX7_init 19 = .ok (.sipush 3000, 3) := by decide +kernel
theorem dX7_init_22 : decode cX7_init 22 = .ok (.iload_n 2, 1) := by decide +kernel
theorem dX7_init_23 : decode cX7_init 23 = .ok (.invokestatic 9, 3) := by decide +kernel
theorem dX7_init_26 : decode cX7_init 26 = .ok (.invokestatic 15, 3) := by decide +kernel
theorem dX7_init_29 : decode cX7_init 29 = .ok (.putfield 22, 3) := by decide +kernel
theorem dX7_init_32 : decode cX7_init 32 = .ok (.aload_n 0, 1) := by decide +kernel
theorem dX7_init_33 : decode cX7_init 33 = .ok (.new 25, 3) := by decide +kernel
theorem dX7_init_36 : decode cX7_init 36 = .ok (.dup, 1) := by decide +kernel
theorem dX7_init_37 : decode cX7_init 37 = .ok (.aload_n 0, 1) := by decide +kernel
theorem dX7_init_38 : decode cX7_init 38 = .ok (.getfield 22, 3) := by decide +kernel
theorem dX7_init_41 : decode cX7_init 41 = .ok (.invokespecial 27, 3) := by decide +kernel
theorem dX7_init_44 : decode cX7_init 44 = .ok (.putfield 30, 3) := by decide +kernel
theorem dX7_init_47 : decode cX7_init 47 = .ok (.aload_n 0, 1) := by decide +kernel
theorem dX7_init_48 : decode cX7_init 48 = .ok (.new 34, 3) := by decide +kernel
theorem dX7_init_51 : decode cX7_init 51 = .ok (.dup, 1) := by decide +kernel
theorem dX7_init_52 : decode cX7_init 52 = .ok (.invokespecial 36, 3) := by decide +kernel
theorem dX7_init_55 : decode cX7_init 55 = .ok (.putfield 37, 3) := by decide +kernel
theorem dX7_init_58 : decode cX7_init 58 = .ok (.aload_n 0, 1) := by decide +kernel
theorem dX7_init_59 : decode cX7_init 59 = .ok (.new 41, 3) := by decide +kernel
theorem dX7_init_62 : decode cX7_init 62 = .ok (.dup, 1) := by decide +kernel
theorem dX7_init_63 : decode cX7_init 63 = .ok (.invokespecial 43, 3) := by decide +kernel
theorem dX7_init_66 : decode cX7_init 66 = .ok (.putfield 44, 3) := by decide +kernel
theorem dX7_init_69 : decode cX7_init 69 = .ok (.aload_n 0, 1) := by decide +kernel
theorem dX7_init_70 : decode cX7_init 70 = .ok (.new 41, 3) := by decide +kernel
theorem dX7_init_73 : decode cX7_init 73 = .ok (.dup, 1) := by decide +kernel
theorem dX7_init_74 : decode cX7_init 74 = .ok (.invokespecial 43, 3) := by decide +kernel
theorem dX7_init_77 : decode cX7_init 77 = .ok (.putfield 48, 3) := by decide +kernel
theorem dX7_init_80 : decode cX7_init 80 = .ok (.aload_n 0, 1) := by decide +kernel
theorem dX7_init_81 : decode cX7_init 81 = .ok (.new 51, 3) := by decide +kernel
theorem dX7_init_84 : decode cX7_init 84 = .ok (.dup, 1) := by decide +kernel
theorem dX7_init_85 : decode cX7_init 85 = .ok (.aload_n 0, 1) := by decide +kernel
theorem dX7_init_86 : decode cX7_init 86 = .ok (.getfield 37, 3) := by decide +kernel
theorem dX7_init_89 : decode cX7_init 89 = .ok (.aload_n 0, 1) := by decide +kernel
theorem dX7_init_90 : decode cX7_init 90 = .ok (.getfield 22, 3) := by decide +kernel
theorem dX7_init_93 : decode cX7_init 93 = .ok (.aload_n 0, 1) := by decide +kernel
theorem dX7_init_94 : decode cX7_init 94 = .ok (.getfield 44, 3) := by decide +kernel
theorem dX7_init_97 : decode cX7_init 97 = .ok (.invokespecial 53, 3) := by decide +kernel
theorem dX7_init_100 : decode cX7_init 100 = .ok (.putfield 56, 3) := by decide +kernel
theorem dX7_init_103 : decode cX7_init 103 = .ok (.aload_n 0, 1) := by decide +kernel
theorem dX7_init_104 : decode cX7_init 104 = .ok (.new 60, 3) := by decide +kernel
theorem dX7_init_107 : decode cX7_init 107 = .ok (.dup, 1) := by decide +kernel
theorem dX7_init_108 : decode cX7_init 108 = .ok (.aload_n 0, 1) := by decide +kernel
theorem dX7_init_109 : decode cX7_init 109 = .ok (.getfield 22, 3) := by decide +kernel
theorem dX7_init_112 : decode cX7_init 112 = .ok (.aload_n 0, 1) := by decide +kernel
theorem dX7_init_113 : decode cX7_init 113 = .ok (.getfield 48, 3) := by decide +kernel
theorem dX7_init_116 : decode cX7_init 116 = .ok (.invokespecial 62, 3) := by decide +kernel
theorem dX7_init_119 : decode cX7_init 119 = .ok (.putfield 65, 3) := by decide +kernel
theorem dX7_init_122 : decode cX7_init 122 = .ok (.return_, 1) := by decide +kernel
abbrev po_c_X7_init (g : GG) (h0 : Nat) (kk : Int) (ww : Int) : Option Value → va_W → Prop := fun v8 w8 => ∃ kd : Int, ∃ w : Int, ∃ sm : Nat, ∃ sw : Nat, ∃ rw : Nat, ∃ rs : Nat, ∃ ri : Nat, ∃ wr : Nat, ∃ wb : Nat, ∃ fd : Nat, ∃ fb : Nat, ∃ wt : Nat, ∃ wd : Nat, ∃ rd : Nat, ∃ yr : Nat, ∃ yrs : Nat, ∃ yri : Nat, ∃ ym : Nat, ∃ yms : Nat, ∃ ymi : Nat, ∃ yd : Nat, ∃ yt1 : Nat, ∃ yb1 : Nat, ∃ yt2 : Nat, ∃ yb2 : Nat, ∃ yt3 : Nat, ∃ yb3 : Nat, ∃ ytd : Nat, ∃ yn1 : Nat, ∃ yn2 : Nat, ∃ yn3 : Nat, ∃ yf1 : Nat → Int32, ∃ yf2 : Nat → Int32, ∃ yf3 : Nat → Int32, ∃ yc1 : Int32, ∃ yc2 : Int32, ∃ yc3 : Int32, v8 = none ∧ w8 = [(h0, ob 7 [.int (iI kd), .int (iI w), .ref sm, .ref rw, .ref wr, .ref fd, .ref wt, .ref rd, .int (iI 0), .int (iI 0), .int (iI 0)]), (sm, ob 4 [.int (iI w), .ref sw]), (sw, aI g (((w + 31) / 32).toNat) (fun _ => 0)), (rw, ob 2 [.ref rs, .ref ri, .int (iI 0)]), (rs, aI g 27 (fun _ => 0)), (ri, aI g 32 (fun _ => 0)), (wr, ob 0 [.ref wb, .int (iI 0), .int (iI 0), .int (iI 7)]), (wb, aB g 64 (fun _ => 0)), (fd, ob 0 [.ref fb, .int (iI 0), .int (iI 0), .int (iI 7)]), (fb, aB g 64 (fun _ => 0)), (wt, ob 6 [.ref rw, .int (iI w), .ref wr, .ref wd]), (wd, ob 5 [.ref rw, .int (iI w), .int (iI 0), .int (iI 0), .int (iI 0), .int (iI 0)]), (rd, ob 3 [.int (iI w), .ref yr, .ref ym, .ref yd, .ref yt1, .ref yt2, .ref yt3, .ref ytd, .ref fd]), (yr, ob 2 [.ref yrs, .ref yri, .int (iI 0)]), (yrs, aI g 27 (fun _ => 0)), (yri, aI g 32 (fun _ => 0)), (ym, ob 2 [.ref yms, .ref ymi, .int (iI 0)]), (yms, aI g 27 (fun _ => 0)), (ymi, aI g 32 (fun _ => 0)), (yd, aZ g 25 (fun _ => 0)), (yt1, ob 1 [.ref yb1, .int yc1]), (yb1, aI g yn1 yf1), (yt2, ob 1 [.ref yb2, .int yc2]), (yb2, aI g yn2 yf2), (yt3, ob 1 [.ref yb3, .int yc3]), (yb3, aI g yn3 yf3), (ytd, ob 5 [.ref yr, .int (iI w), .int (iI 0), .int (iI 0), .int (iI 0), .int (iI 0)])] ∧ ((kk < 0 ∧ kd = 0) ∨ (0 ≤ kk ∧ kk ≤ 2 ∧ kd = kk) ∨ (2 < kk ∧ kd = 2)) ∧ ((ww < 1 ∧ w = 1) ∨ (1 ≤ ww ∧ ww ≤ 3000 ∧ w = ww) ∨ (3000 < ww ∧ w = 3000)) ∧ (yn1 < 100000 ∧ yn2 < 100000 ∧ yn3 < 100000) ∧ (lo yf1) ∧ (lo yf2) ∧ (lo yf3)
set_option maxHeartbeats 4000000 in
set_option maxRecDepth 100000 in
/-- new FaxRows -/
theorem c_X7_init (l : Launch) (g : GG) (h0 : Nat) (kk : Int) (ww : Int) (hp0 : -2147483648 ≤ kk ∧ kk < 2147483648) (hp1 : -2147483648 ≤ ww ∧ ww < 2147483648) : Ct l g yX7_init (wM yX7_init cX7_init 3 none) (rmD 6 6100 90000) [.ref h0, .int (iI kk), .int (iI ww)] [(h0, ob 7 [.int (iI 0), .int (iI 0), .null, .null, .null, .null, .null, .null, .int (iI 0), .int (iI 0), .int (iI 0)])] (po_c_X7_init g h0 kk ww) := by
  refine Ct_of (by decide +kernel) (Nat.le_of_ble_eq_true rfl) ?_
  intro p9 e9 s9 m9 ag9 bl9 mt9 c9 A9 fx hr hnm
  refine v_aload_n fx 0 dX7_init_0 rfl rfl ?_
  refine v_objInit fx (nl rfl) k76 k77 k78 dX7_init_1 (nl rfl) (nl rfl) rfl ?_
  refine v_aload_n fx 0 dX7_init_4 rfl rfl ?_
  refine v_iconst fx dX7_init_5 rfl ?_
  refine v_iconst fx dX7_init_6 rfl ?_
  refine v_iload_n fx 1 dX7_init_7 rfl rfl ?_
  obtain ⟨z_1, ez_1⟩ : ∃ z9 : Int, (if kk < 2 then kk else 2) = z9 := ⟨_, rfl⟩
  have hz_1 : (kk < 2 ∧ z_1 = kk) ∨ (¬ kk < 2 ∧ z_1 = 2) := by split at ez_1 <;> omega
  refine v_mmin fx (z_1) (by omega) (by omega) (ez_1) k79 k80 k47 k81 dX7_init_8 (nl rfl) (nl rfl) (nl rfl) (nl rfl) (nl rfl) rfl ?_
  obtain ⟨z_2, ez_2⟩ : ∃ z9 : Int, (if 0 < z_1 then z_1 else 0) = z9 := ⟨_, rfl⟩
  have hz_2 : (0 < z_1 ∧ z_2 = z_1) ∨ (¬ 0 < z_1 ∧ z_2 = 0) := by split at ez_2 <;> omega
  refine v_mmax fx (z_2) (by omega) (by omega) (ez_2) k82 k83 k47 k84 dX7_init_11 (nl rfl) (nl rfl) (nl rfl) (nl rfl) (nl rfl) rfl ?_
  refine v_putF fx 0 0 [(h0, ob 7 [.int (iI z_2), .int (iI 0), .null, .null, .null, .null, .null, .null, .int (iI 0), .int (iI 0), .int (iI 0)])] hnm inX7 tyX7_ok nmX7 k276 dX7_init_14 rfl rfl (by decide) rfl rfl rfl rfl rfl (nl rfl) rfl rfl ?_
  refine v_aload_n fx 0 dX7_init_17 rfl rfl ?_
  refine v_iconst fx dX7_init_18 rfl ?_
  refine v_sipush fx dX7_init_19 (by decide +kernel) rfl ?_
  refine v_iload_n fx 2 dX7_init_22 rfl rfl ?_
  obtain ⟨z_3, ez_3⟩ : ∃ z9 : Int, (if ww < 3000 then ww else 3000) = z9 := ⟨_, rfl⟩
  have hz_3 : (ww < 3000 ∧ z_3 = ww) ∨ (¬ ww < 3000 ∧ z_3 = 3000) := by split at ez_3 <;> omega
  refine v_mmin fx (z_3) (by omega) (by omega) (ez_3) k79 k80 k47 k81 dX7_init_23 (nl rfl) (nl rfl) (nl rfl) (nl rfl) (nl rfl) rfl ?_
  obtain ⟨z_4, ez_4⟩ : ∃ z9 : Int, (if 1 < z_3 then z_3 else 1) = z9 := ⟨_, rfl⟩
  have hz_4 : (1 < z_3 ∧ z_4 = z_3) ∨ (¬ 1 < z_3 ∧ z_4 = 1) := by split at ez_4 <;> omega
  refine v_mmax fx (z_4) (by omega) (by omega) (ez_4) k82 k83 k47 k84 dX7_init_26 (nl rfl) (nl rfl) (nl rfl) (nl rfl) (nl rfl) rfl ?_
  refine v_putF fx 0 1 [(h0, ob 7 [.int (iI z_2), .int (iI z_4), .null, .null, .null, .null, .null, .null, .int (iI 0), .int (iI 0), .int (iI 0)])] hnm inX7 tyX7_ok nmX7 k277 dX7_init_29 rfl rfl (by decide) rfl rfl rfl rfl rfl (nl rfl) rfl rfl ?_
  refine v_aload_n fx 0 dX7_init_32 rfl rfl ?_
  refine v_new (ci := 4) fx [.int (iI 0), .null] 1 2 inX4 tyX4_ok k85 k86 k48 dX7_init_33 rfl (fun j hj => by rcases (show j = 0 ∨ j = 1 by omega) with rfl | rfl <;> rfl) (nl rfl) (nl rfl) rfl rfl rfl (fun q_5 => ?_)
  refine v_is (wn := [(h0, ob 7 [.int (iI z_2), .int (iI z_4), .null, .null, .null, .null, .null, .null, .int (iI 0), .int (iI 0), .int (iI 0)]), (q_5, ob 4 [.int (iI 0), .null])]) (cn := 1) (sn := 2) (sn2 := [.ref q_5, .ref h0]) rfl rfl rfl rfl ?_
  refine v_dup fx dX7_init_36 rfl rfl ?_
  refine v_aload_n fx 0 dX7_init_37 rfl rfl ?_
  refine v_get fx 0 1 inX7 k277 dX7_init_38 rfl rfl (by decide) rfl rfl rfl ?_
  refine v_callI (As := [.int (iI z_4)]) (rest := [.ref q_5, .ref h0]) fx [1] [0] [(q_5, ob 4 [.int (iI 0), .null])] [(h0, ob 7 [.int (iI z_2), .int (iI z_4), .null, .null, .null, .null, .null, .null, .int (iI 0), .int (iI 0), .int (iI 0)])] 1 (c_X4_init l g q_5 z_4 (by first | omega | decide | assumption)) dX7_init_41 k87 k88 rfl k48 k89 ykX4_init rfl rfl rfl rfl rfl (nl rfl) ⟨nl rfl, nl rfl⟩ ⟨(nl rfl), (nl rfl)⟩ rfl (fun v9 w9 hu => ?_)
  obtain ⟨a1_6, rfl, rfl⟩ := hu
  refine v_is (wn := [(h0, ob 7 [.int (iI z_2), .int (iI z_4), .null, .null, .null, .null, .null, .null, .int (iI 0), .int (iI 0), .int (iI 0)]), (q_5, ob 4 [.int (iI z_4), .ref a1_6]), (a1_6, aI g (((z_4 + 31) / 32).toNat) (fun _ => 0))]) (cn := 2) (sn := 96) (sn2 := [.ref q_5, .ref h0]) rfl rfl rfl rfl ?_
  refine v_putF fx 0 2 [(h0, ob 7 [.int (iI z_2), .int (iI z_4), .ref q_5, .null, .null, .null, .null, .null, .int (iI 0), .int (iI 0), .int (iI 0)]), (q_5, ob 4 [.int (iI z_4), .ref a1_6]), (a1_6, aI g (((z_4 + 31) / 32).toNat) (fun _ => 0))] hnm inX7 tyX7_ok nmX7 k278 dX7_init_44 rfl rfl (by decide) rfl rfl rfl rfl rfl (nl rfl) rfl rfl ?_
  refine v_aload_n fx 0 dX7_init_47 rfl rfl ?_
  refine v_new (ci := 2) fx [.null, .null, .int (iI 0)] 3 99 inX2 tyX2_ok k99 k100 k49 dX7_init_48 rfl (fun j hj => by rcases (show j = 0 ∨ j = 1 ∨ j = 2 by omega) with rfl | rfl | rfl <;> rfl) (nl rfl) (nl rfl) rfl rfl rfl (fun q_7 => ?_)
  refine v_is (wn := [(h0, ob 7 [.int (iI z_2), .int (iI z_4), .ref q_5, .null, .null, .null, .null, .null, .int (iI 0), .int (iI 0), .int (iI 0)]), (q_5, ob 4 [.int (iI z_4), .ref a1_6]), (a1_6, aI g (((z_4 + 31) / 32).toNat) (fun _ => 0)), (q_7, ob 2 [.null, .null, .int (iI 0)])]) (cn := 3) (sn := 99) (sn2 := [.ref q_7, .ref h0]) rfl rfl rfl rfl ?_
  refine v_dup fx dX7_init_51 rfl rfl ?_
  refine v_callIN (As := []) (rest := [.ref q_7, .ref h0]) fx [3] [0, 1, 2] [(q_7, ob 2 [.null, .null, .int (iI 0)])] [(h0, ob 7 [.int (iI z_2), .int (iI z_4), .ref q_5, .null, .null, .null, .null, .null, .int (iI 0), .int (iI 0), .int (iI 0)]), (q_5, ob 4 [.int (iI z_4), .ref a1_6]), (a1_6, aI g (((z_4 + 31) / 32).toNat) (fun _ => 0))] 0 (c_X2_init l g q_7 ) dX7_init_52 n101 k102 rfl k49 k103 ykX2_init rfl rfl rfl rfl rfl (nl rfl) ⟨nl rfl, nl rfl⟩ ⟨(nl rfl), (nl rfl)⟩ rfl (fun v9 w9 hu => ?_)
  obtain ⟨a1_8, a2_9, rfl, rfl⟩ := hu
  refine v_is (wn := [(h0, ob 7 [.int (iI z_2), .int (iI z_4), .ref q_5, .null, .null, .null, .null, .null, .int (iI 0), .int (iI 0), .int (iI 0)]), (q_5, ob 4 [.int (iI z_4), .ref a1_6]), (a1_6, aI g (((z_4 + 31) / 32).toNat) (fun _ => 0)), (q_7, ob 2 [.ref a1_8, .ref a2_9, .int (iI 0)]), (a1_8, aI g 27 (fun _ => 0)), (a2_9, aI g 32 (fun _ => 0))]) (cn := 5) (sn := 158) (sn2 := [.ref q_7, .ref h0]) rfl rfl rfl rfl ?_
  refine v_putF fx 0 3 [(h0, ob 7 [.int (iI z_2), .int (iI z_4), .ref q_5, .ref q_7, .null, .null, .null, .null, .int (iI 0), .int (iI 0), .int (iI 0)]), (q_5, ob 4 [.int (iI z_4), .ref a1_6]), (a1_6, aI g (((z_4 + 31) / 32).toNat) (fun _ => 0)), (q_7, ob 2 [.ref a1_8, .ref a2_9, .int (iI 0)]), (a1_8, aI g 27 (fun _ => 0)), (a2_9, aI g 32 (fun _ => 0))] hnm inX7 tyX7_ok nmX7 k279 dX7_init_55 rfl rfl (by decide) rfl rfl rfl rfl rfl (nl rfl) rfl rfl ?_
  refine v_aload_n fx 0 dX7_init_58 rfl rfl ?_
  refine v_new (ci := 0) fx [.null, .int (iI 0), .int (iI 0), .int (iI 0)] 6 162 inX0 tyX0_ok k115 k116 k50 dX7_init_59 rfl (fun j hj => by rcases (show j = 0 ∨ j = 1 ∨ j = 2 ∨ j = 3 by omega) with rfl | rfl | rfl | rfl <;> rfl) (nl rfl) (nl rfl) rfl rfl rfl (fun q_10 => ?_)
  refine v_is (wn := [(h0, ob 7 [.int (iI z_2), .int (iI z_4), .ref q_5, .ref q_7, .null, .null, .null, .null, .int (iI 0), .int (iI 0), .int (iI 0)]), (q_5, ob 4 [.int (iI z_4), .ref a1_6]), (a1_6, aI g (((z_4 + 31) / 32).toNat) (fun _ => 0)), (q_7, ob 2 [.ref a1_8, .ref a2_9, .int (iI 0)]), (a1_8, aI g 27 (fun _ => 0)), (a2_9, aI g 32 (fun _ => 0)), (q_10, ob 0 [.null, .int (iI 0), .int (iI 0), .int (iI 0)])]) (cn := 6) (sn := 162) (sn2 := [.ref q_10, .ref h0]) rfl rfl rfl rfl ?_
  refine v_dup fx dX7_init_62 rfl rfl ?_
  refine v_callIN (As := []) (rest := [.ref q_10, .ref h0]) fx [6] [0, 1, 2, 3, 4, 5] [(q_10, ob 0 [.null, .int (iI 0), .int (iI 0), .int (iI 0)])] [(h0, ob 7 [.int (iI z_2), .int (iI z_4), .ref q_5, .ref q_7, .null, .null, .null, .null, .int (iI 0), .int (iI 0), .int (iI 0)]), (q_5, ob 4 [.int (iI z_4), .ref a1_6]), (a1_6, aI g (((z_4 + 31) / 32).toNat) (fun _ => 0)), (q_7, ob 2 [.ref a1_8, .ref a2_9, .int (iI 0)]), (a1_8, aI g 27 (fun _ => 0)), (a2_9, aI g 32 (fun _ => 0))] 0 (c_X0_init l g q_10 ) dX7_init_63 n117 k118 rfl k50 k119 ykX0_init rfl rfl rfl rfl rfl (nl rfl) ⟨nl rfl, nl rfl⟩ ⟨(nl rfl), (nl rfl)⟩ rfl (fun v9 w9 hu => ?_)
  obtain ⟨a1_11, rfl, rfl⟩ := hu
  refine v_is (wn := [(h0, ob 7 [.int (iI z_2), .int (iI z_4), .ref q_5, .ref q_7, .null, .null, .null, .null, .int (iI 0), .int (iI 0), .int (iI 0)]), (q_5, ob 4 [.int (iI z_4), .ref a1_6]), (a1_6, aI g (((z_4 + 31) / 32).toNat) (fun _ => 0)), (q_7, ob 2 [.ref a1_8, .ref a2_9, .int (iI 0)]), (a1_8, aI g 27 (fun _ => 0)), (a2_9, aI g 32 (fun _ => 0)), (q_10, ob 0 [.ref a1_11, .int (iI 0), .int (iI 0), .int (iI 7)]), (a1_11, aB g 64 (fun _ => 0))]) (cn := 7) (sn := 226) (sn2 := [.ref q_10, .ref h0]) rfl rfl rfl rfl ?_
  refine v_putF fx 0 4 [(h0, ob 7 [.int (iI z_2), .int (iI z_4), .ref q_5, .ref q_7, .ref q_10, .null, .null, .null, .int (iI 0), .int (iI 0), .int (iI 0)]), (q_5, ob 4 [.int (iI z_4), .ref a1_6]), (a1_6, aI g (((z_4 + 31) / 32).toNat) (fun _ => 0)), (q_7, ob 2 [.ref a1_8, .ref a2_9, .int (iI 0)]), (a1_8, aI g 27 (fun _ => 0)), (a2_9, aI g 32 (fun _ => 0)), (q_10, ob 0 [.ref a1_11, .int (iI 0), .int (iI 0), .int (iI 7)]), (a1_11, aB g 64 (fun _ => 0))] hnm inX7 tyX7_ok nmX7 k280 dX7_init_66 rfl rfl (by decide) rfl rfl rfl rfl rfl (nl rfl) rfl rfl ?_
  refine v_aload_n fx 0 dX7_init_69 rfl rfl ?_
  refine v_new (ci := 0) fx [.null, .int (iI 0), .int (iI 0), .int (iI 0)] 8 230 inX0 tyX0_ok k115 k116 k50 dX7_init_70 rfl (fun j hj => by rcases (show j = 0 ∨ j = 1 ∨ j = 2 ∨ j = 3 by omega) with rfl | rfl | rfl | rfl <;> rfl) (nl rfl) (nl rfl) rfl rfl rfl (fun q_12 => ?_)
  refine v_is (wn := [(h0, ob 7 [.int (iI z_2), .int (iI z_4), .ref q_5, .ref q_7, .ref q_10, .null, .null, .null, .int (iI 0), .int (iI 0), .int (iI 0)]), (q_5, ob 4 [.int (iI z_4), .ref a1_6]), (a1_6, aI g (((z_4 + 31) / 32).toNat) (fun _ => 0)), (q_7, ob 2 [.ref a1_8, .ref a2_9, .int (iI 0)]), (a1_8, aI g 27 (fun _ => 0)), (a2_9, aI g 32 (fun _ => 0)), (q_10, ob 0 [.ref a1_11, .int (iI 0), .int (iI 0), .int (iI 7)]), (a1_11, aB g 64 (fun _ => 0)), (q_12, ob 0 [.null, .int (iI 0), .int (iI 0), .int (iI 0)])]) (cn := 8) (sn := 230) (sn2 := [.ref q_12, .ref h0]) rfl rfl rfl rfl ?_
  refine v_dup fx dX7_init_73 rfl rfl ?_
  refine v_callIN (As := []) (rest := [.ref q_12, .ref h0]) fx [8] [0, 1, 2, 3, 4, 5, 6, 7] [(q_12, ob 0 [.null, .int (iI 0), .int (iI 0), .int (iI 0)])] [(h0, ob 7 [.int (iI z_2), .int (iI z_4), .ref q_5, .ref q_7, .ref q_10, .null, .null, .null, .int (iI 0), .int (iI 0), .int (iI 0)]), (q_5, ob 4 [.int (iI z_4), .ref a1_6]), (a1_6, aI g (((z_4 + 31) / 32).toNat) (fun _ => 0)), (q_7, ob 2 [.ref a1_8, .ref a2_9, .int (iI 0)]), (a1_8, aI g 27 (fun _ => 0)), (a2_9, aI g 32 (fun _ => 0)), (q_10, ob 0 [.ref a1_11, .int (iI 0), .int (iI 0), .int (iI 7)]), (a1_11, aB g 64 (fun _ => 0))] 0 (c_X0_init l g q_12 ) dX7_init_74 n117 k118 rfl k50 k119 ykX0_init rfl rfl rfl rfl rfl (nl rfl) ⟨nl rfl, nl rfl⟩ ⟨(nl rfl), (nl rfl)⟩ rfl (fun v9 w9 hu => ?_)
  obtain ⟨a1_13, rfl, rfl⟩ := hu
  refine v_is (wn := [(h0, ob 7 [.int (iI z_2), .int (iI z_4), .ref q_5, .ref q_7, .ref q_10, .null, .null, .null, .int (iI 0), .int (iI 0), .int (iI 0)]), (q_5, ob 4 [.int (iI z_4), .ref a1_6]), (a1_6, aI g (((z_4 + 31) / 32).toNat) (fun _ => 0)), (q_7, ob 2 [.ref a1_8, .ref a2_9, .int (iI 0)]), (a1_8, aI g 27 (fun _ => 0)), (a2_9, aI g 32 (fun _ => 0)), (q_10, ob 0 [.ref a1_11, .int (iI 0), .int (iI 0), .int (iI 7)]), (a1_11, aB g 64 (fun _ => 0)), (q_12, ob 0 [.ref a1_13, .int (iI 0), .int (iI 0), .int (iI 7)]), (a1_13, aB g 64 (fun _ => 0))]) (cn := 9) (sn := 294) (sn2 := [.ref q_12, .ref h0]) rfl rfl rfl rfl ?_
  refine v_putF fx 0 5 [(h0, ob 7 [.int (iI z_2), .int (iI z_4), .ref q_5, .ref q_7, .ref q_10, .ref q_12, .null, .null, .int (iI 0), .int (iI 0), .int (iI 0)]), (q_5, ob 4 [.int (iI z_4), .ref a1_6]), (a1_6, aI g (((z_4 + 31) / 32).toNat) (fun _ => 0)), (q_7, ob 2 [.ref a1_8, .ref a2_9, .int (iI 0)]), (a1_8, aI g 27 (fun _ => 0)), (a2_9, aI g 32 (fun _ => 0)), (q_10, ob 0 [.ref a1_11, .int (iI 0), .int (iI 0), .int (iI 7)]), (a1_11, aB g 64 (fun _ => 0)), (q_12, ob 0 [.ref a1_13, .int (iI 0), .int (iI 0), .int (iI 7)]), (a1_13, aB g 64 (fun _ => 0))] hnm inX7 tyX7_ok nmX7 k281 dX7_init_77 rfl rfl (by decide) rfl rfl rfl rfl rfl (nl rfl) rfl rfl ?_
  refine v_aload_n fx 0 dX7_init_80 rfl rfl ?_
  refine v_new (ci := 6) fx [.null, .int (iI 0), .null, .null] 10 298 inX6 tyX6_ok k135 k136 k51 dX7_init_81 rfl (fun j hj => by rcases (show j = 0 ∨ j = 1 ∨ j = 2 ∨ j = 3 by omega) with rfl | rfl | rfl | rfl <;> rfl) (nl rfl) (nl rfl) rfl rfl rfl (fun q_14 => ?_)
  refine v_is (wn := [(h0, ob 7 [.int (iI z_2), .int (iI z_4), .ref q_5, .ref q_7, .ref q_10, .ref q_12, .null, .null, .int (iI 0), .int (iI 0), .int (iI 0)]), (q_5, ob 4 [.int (iI z_4), .ref a1_6]), (a1_6, aI g (((z_4 + 31) / 32).toNat) (fun _ => 0)), (q_7, ob 2 [.ref a1_8, .ref a2_9, .int (iI 0)]), (a1_8, aI g 27 (fun _ => 0)), (a2_9, aI g 32 (fun _ => 0)), (q_10, ob 0 [.ref a1_11, .int (iI 0), .int (iI 0), .int (iI 7)]), (a1_11, aB g 64 (fun _ => 0)), (q_12, ob 0 [.ref a1_13, .int (iI 0), .int (iI 0), .int (iI 7)]), (a1_13, aB g 64 (fun _ => 0)), (q_14, ob 6 [.null, .int (iI 0), .null, .null])]) (cn := 10) (sn := 298) (sn2 := [.ref q_14, .ref h0]) rfl rfl rfl rfl ?_
  refine v_dup fx dX7_init_84 rfl rfl ?_
  refine v_aload_n fx 0 dX7_init_85 rfl rfl ?_
  refine v_get fx 0 3 inX7 k279 dX7_init_86 rfl rfl (by decide) rfl rfl rfl ?_
  refine v_aload_n fx 0 dX7_init_89 rfl rfl ?_
  refine v_get fx 0 1 inX7 k277 dX7_init_90 rfl rfl (by decide) rfl rfl rfl ?_
  refine v_aload_n fx 0 dX7_init_93 rfl rfl ?_
  refine v_get fx 0 4 inX7 k280 dX7_init_94 rfl rfl (by decide) rfl rfl rfl ?_
  refine v_callI (As := [.ref q_7, .int (iI z_4), .ref q_10]) (rest := [.ref q_14, .ref h0]) fx [10] [0, 1, 2, 3, 4, 5, 6, 7, 8, 9] [(q_14, ob 6 [.null, .int (iI 0), .null, .null])] [(h0, ob 7 [.int (iI z_2), .int (iI z_4), .ref q_5, .ref q_7, .ref q_10, .ref q_12, .null, .null, .int (iI 0), .int (iI 0), .int (iI 0)]), (q_5, ob 4 [.int (iI z_4), .ref a1_6]), (a1_6, aI g (((z_4 + 31) / 32).toNat) (fun _ => 0)), (q_7, ob 2 [.ref a1_8, .ref a2_9, .int (iI 0)]), (a1_8, aI g 27 (fun _ => 0)), (a2_9, aI g 32 (fun _ => 0)), (q_10, ob 0 [.ref a1_11, .int (iI 0), .int (iI 0), .int (iI 7)]), (a1_11, aB g 64 (fun _ => 0)), (q_12, ob 0 [.ref a1_13, .int (iI 0), .int (iI 0), .int (iI 7)]), (a1_13, aB g 64 (fun _ => 0))] 3 (c_X6_init l g q_14 q_7 q_10 z_4 ) dX7_init_97 k137 k138 rfl k51 k139 ykX6_init rfl rfl rfl rfl rfl (nl rfl) ⟨nl rfl, nl rfl⟩ ⟨(nl rfl), (nl rfl)⟩ rfl (fun v9 w9 hu => ?_)
  obtain ⟨td_15, rfl, rfl⟩ := hu
  refine v_is (wn := [(h0, ob 7 [.int (iI z_2), .int (iI z_4), .ref q_5, .ref q_7, .ref q_10, .ref q_12, .null, .null, .int (iI 0), .int (iI 0), .int (iI 0)]), (q_5, ob 4 [.int (iI z_4), .ref a1_6]), (a1_6, aI g (((z_4 + 31) / 32).toNat) (fun _ => 0)), (q_7, ob 2 [.ref a1_8, .ref a2_9, .int (iI 0)]), (a1_8, aI g 27 (fun _ => 0)), (a2_9, aI g 32 (fun _ => 0)), (q_10, ob 0 [.ref a1_11, .int (iI 0), .int (iI 0), .int (iI 7)]), (a1_11, aB g 64 (fun _ => 0)), (q_12, ob 0 [.ref a1_13, .int (iI 0), .int (iI 0), .int (iI 7)]), (a1_13, aB g 64 (fun _ => 0)), (q_14, ob 6 [.ref q_7, .int (iI z_4), .ref q_10, .ref td_15]), (td_15, ob 5 [.ref q_7, .int (iI z_4), .int (iI 0), .int (iI 0), .int (iI 0), .int (iI 0)])]) (cn := 11) (sn := 304) (sn2 := [.ref q_14, .ref h0]) rfl rfl rfl rfl ?_
  refine v_putF fx 0 6 [(h0, ob 7 [.int (iI z_2), .int (iI z_4), .ref q_5, .ref q_7, .ref q_10, .ref q_12, .ref q_14, .null, .int (iI 0), .int (iI 0), .int (iI 0)]), (q_5, ob 4 [.int (iI z_4), .ref a1_6]), (a1_6, aI g (((z_4 + 31) / 32).toNat) (fun _ => 0)), (q_7, ob 2 [.ref a1_8, .ref a2_9, .int (iI 0)]), (a1_8, aI g 27 (fun _ => 0)), (a2_9, aI g 32 (fun _ => 0)), (q_10, ob 0 [.ref a1_11, .int (iI 0), .int (iI 0), .int (iI 7)]), (a1_11, aB g 64 (fun _ => 0)), (q_12, ob 0 [.ref a1_13, .int (iI 0), .int (iI 0), .int (iI 7)]), (a1_13, aB g 64 (fun _ => 0)), (q_14, ob 6 [.ref q_7, .int (iI z_4), .ref q_10, .ref td_15]), (td_15, ob 5 [.ref q_7, .int (iI z_4), .int (iI 0), .int (iI 0), .int (iI 0), .int (iI 0)])] hnm inX7 tyX7_ok nmX7 k282 dX7_init_100 rfl rfl (by decide) rfl rfl rfl rfl rfl (nl rfl) rfl rfl ?_
  refine v_aload_n fx 0 dX7_init_103 rfl rfl ?_
  refine v_new (ci := 3) fx [.int (iI 0), .null, .null, .null, .null, .null, .null, .null, .null] 12 313 inX3 tyX3_ok k179 k180 k53 dX7_init_104 rfl (fun j hj => by rcases (show j = 0 ∨ j = 1 ∨ j = 2 ∨ j = 3 ∨ j = 4 ∨ j = 5 ∨ j = 6 ∨ j = 7 ∨ j = 8 by omega) with rfl | rfl | rfl | rfl | rfl | rfl | rfl | rfl | rfl <;> rfl) (nl rfl) (nl rfl) rfl rfl rfl (fun q_16 => ?_)
  refine v_is (wn := [(h0, ob 7 [.int (iI z_2), .int (iI z_4), .ref q_5, .ref q_7, .ref q_10, .ref q_12, .ref q_14, .null, .int (iI 0), .int (iI 0), .int (iI 0)]), (q_5, ob 4 [.int (iI z_4), .ref a1_6]), (a1_6, aI g (((z_4 + 31) / 32).toNat) (fun _ => 0)), (q_7, ob 2 [.ref a1_8, .ref a2_9, .int (iI 0)]), (a1_8, aI g 27 (fun _ => 0)), (a2_9, aI g 32 (fun _ => 0)), (q_10, ob 0 [.ref a1_11, .int (iI 0), .int (iI 0), .int (iI 7)]), (a1_11, aB g 64 (fun _ => 0)), (q_12, ob 0 [.ref a1_13, .int (iI 0), .int (iI 0), .int (iI 7)]), (a1_13, aB g 64 (fun _ => 0)), (q_14, ob 6 [.ref q_7, .int (iI z_4), .ref q_10, .ref td_15]), (td_15, ob 5 [.ref q_7, .int (iI z_4), .int (iI 0), .int (iI 0), .int (iI 0), .int (iI 0)]), (q_16, ob 3 [.int (iI 0), .null, .null, .null, .null, .null, .null, .null, .null])]) (cn := 12) (sn := 313) (sn2 := [.ref q_16, .ref h0]) rfl rfl rfl rfl ?_
  refine v_dup fx dX7_init_107 rfl rfl ?_
  refine v_aload_n fx 0 dX7_init_108 rfl rfl ?_
  refine v_get fx 0 1 inX7 k277 dX7_init_109 rfl rfl (by decide) rfl rfl rfl ?_
  refine v_aload_n fx 0 dX7_init_112 rfl rfl ?_
  refine v_get fx 0 5 inX7 k281 dX7_init_113 rfl rfl (by decide) rfl rfl rfl ?_
  refine v_callI (As := [.int (iI z_4), .ref q_12]) (rest := [.ref q_16, .ref h0]) fx [12] [0, 1, 2, 3, 4, 5, 6, 7, 8, 9, 10, 11] [(q_16, ob 3 [.int (iI 0), .null, .null, .null, .null, .null, .null, .null, .null])] [(h0, ob 7 [.int (iI z_2), .int (iI z_4), .ref q_5, .ref q_7, .ref q_10, .ref q_12, .ref q_14, .null, .int (iI 0), .int (iI 0), .int (iI 0)]), (q_5, ob 4 [.int (iI z_4), .ref a1_6]), (a1_6, aI g (((z_4 + 31) / 32).toNat) (fun _ => 0)), (q_7, ob 2 [.ref a1_8, .ref a2_9, .int (iI 0)]), (a1_8, aI g 27 (fun _ => 0)), (a2_9, aI g 32 (fun _ => 0)), (q_10, ob 0 [.ref a1_11, .int (iI 0), .int (iI 0), .int (iI 7)]), (a1_11, aB g 64 (fun _ => 0)), (q_12, ob 0 [.ref a1_13, .int (iI 0), .int (iI 0), .int (iI 7)]), (a1_13, aB g 64 (fun _ => 0)), (q_14, ob 6 [.ref q_7, .int (iI z_4), .ref q_10, .ref td_15]), (td_15, ob 5 [.ref q_7, .int (iI z_4), .int (iI 0), .int (iI 0), .int (iI 0), .int (iI 0)])] 2 (c_X3_init l g q_16 q_12 z_4 ) dX7_init_116 k181 k182 rfl k53 k183 ykX3_init rfl rfl rfl rfl rfl (nl rfl) ⟨nl rfl, nl rfl⟩ ⟨(nl rfl), (nl rfl)⟩ rfl (fun v9 w9 hu => ?_)
  obtain ⟨yr_17, yrs_18, yri_19, ym_20, yms_21, ymi_22, yd_23, yt1_24, yb1_25, yt2_26, yb2_27, yt3_28, yb3_29, ytd_30, yn1_31, yn2_32, yn3_33, yf1_34, yf2_35, yf3_36, yc1_37, yc2_38, yc3_39, rfl, rfl, u_40, u_41, u_42, u_43⟩ := hu
  refine v_is (wn := [(h0, ob 7 [.int (iI z_2), .int (iI z_4), .ref q_5, .ref q_7, .ref q_10, .ref q_12, .ref q_14, .null, .int (iI 0), .int (iI 0), .int (iI 0)]), (q_5, ob 4 [.int (iI z_4), .ref a1_6]), (a1_6, aI g (((z_4 + 31) / 32).toNat) (fun _ => 0)), (q_7, ob 2 [.ref a1_8, .ref a2_9, .int (iI 0)]), (a1_8, aI g 27 (fun _ => 0)), (a2_9, aI g 32 (fun _ => 0)), (q_10, ob 0 [.ref a1_11, .int (iI 0), .int (iI 0), .int (iI 7)]), (a1_11, aB g 64 (fun _ => 0)), (q_12, ob 0 [.ref a1_13, .int (iI 0), .int (iI 0), .int (iI 7)]), (a1_13, aB g 64 (fun _ => 0)), (q_14, ob 6 [.ref q_7, .int (iI z_4), .ref q_10, .ref td_15]), (td_15, ob 5 [.ref q_7, .int (iI z_4), .int (iI 0), .int (iI 0), .int (iI 0), .int (iI 0)]), (q_16, ob 3 [.int (iI z_4), .ref yr_17, .ref ym_20, .ref yd_23, .ref yt1_24, .ref yt2_26, .ref yt3_28, .ref ytd_30, .ref q_12]), (yr_17, ob 2 [.ref yrs_18, .ref yri_19, .int (iI 0)]), (yrs_18, aI g 27 (fun _ => 0)), (yri_19, aI g 32 (fun _ => 0)), (ym_20, ob 2 [.ref yms_21, .ref ymi_22, .int (iI 0)]), (yms_21, aI g 27 (fun _ => 0)), (ymi_22, aI g 32 (fun _ => 0)), (yd_23, aZ g 25 (fun _ => 0)), (yt1_24, ob 1 [.ref yb1_25, .int yc1_37]), (yb1_25, aI g yn1_31 yf1_34), (yt2_26, ob 1 [.ref yb2_27, .int yc2_38]), (yb2_27, aI g yn2_32 yf2_35), (yt3_28, ob 1 [.ref yb3_29, .int yc3_39]), (yb3_29, aI g yn3_33 yf3_36), (ytd_30, ob 5 [.ref yr_17, .int (iI z_4), .int (iI 0), .int (iI 0), .int (iI 0), .int (iI 0)])]) (cn := 6012) (sn := 80313) (sn2 := [.ref q_16, .ref h0]) rfl rfl rfl rfl ?_
  refine v_putF fx 0 7 [(h0, ob 7 [.int (iI z_2), .int (iI z_4), .ref q_5, .ref q_7, .ref q_10, .ref q_12, .ref q_14, .ref q_16, .int (iI 0), .int (iI 0), .int (iI 0)]), (q_5, ob 4 [.int (iI z_4), .ref a1_6]), (a1_6, aI g (((z_4 + 31) / 32).toNat) (fun _ => 0)), (q_7, ob 2 [.ref a1_8, .ref a2_9, .int (iI 0)]), (a1_8, aI g 27 (fun _ => 0)), (a2_9, aI g 32 (fun _ => 0)), (q_10, ob 0 [.ref a1_11, .int (iI 0), .int (iI 0), .int (iI 7)]), (a1_11, aB g 64 (fun _ => 0)), (q_12, ob 0 [.ref a1_13, .int (iI 0), .int (iI 0), .int (iI 7)]), (a1_13, aB g 64 (fun _ => 0)), (q_14, ob 6 [.ref q_7, .int (iI z_4), .ref q_10, .ref td_15]), (td_15, ob 5 [.ref q_7, .int (iI z_4), .int (iI 0), .int (iI 0), .int (iI 0), .int (iI 0)]), (q_16, ob 3 [.int (iI z_4), .ref yr_17, .ref ym_20, .ref yd_23, .ref yt1_24, .ref yt2_26, .ref yt3_28, .ref ytd_30, .ref q_12]), (yr_17, ob 2 [.ref yrs_18, .ref yri_19, .int (iI 0)]), (yrs_18, aI g 27 (fun _ => 0)), (yri_19, aI g 32 (fun _ => 0)), (ym_20, ob 2 [.ref yms_21, .ref ymi_22, .int (iI 0)]), (yms_21, aI g 27 (fun _ => 0)), (ymi_22, aI g 32 (fun _ => 0)), (yd_23, aZ g 25 (fun _ => 0)), (yt1_24, ob 1 [.ref yb1_25, .int yc1_37]), (yb1_25, aI g yn1_31 yf1_34), (yt2_26, ob 1 [.ref yb2_27, .int yc2_38]), (yb2_27, aI g yn2_32 yf2_35), (yt3_28, ob 1 [.ref yb3_29, .int yc3_39]), (yb3_29, aI g yn3_33 yf3_36), (ytd_30, ob 5 [.ref yr_17, .int (iI z_4), .int (iI 0), .int (iI 0), .int (iI 0), .int (iI 0)])] hnm inX7 tyX7_ok nmX7 k283 dX7_init_119 rfl rfl (by decide) rfl rfl rfl rfl rfl (nl rfl) rfl rfl ?_
  exact v_vret fx [(h0, ob 7 [.int (iI z_2), .int (iI z_4), .ref q_5, .ref q_7, .ref q_10, .ref q_12, .ref q_14, .ref q_16, .int (iI 0), .int (iI 0), .int (iI 0)]), (q_5, ob 4 [.int (iI z_4), .ref a1_6]), (a1_6, aI g (((z_4 + 31) / 32).toNat) (fun _ => 0)), (q_7, ob 2 [.ref a1_8, .ref a2_9, .int (iI 0)]), (a1_8, aI g 27 (fun _ => 0)), (a2_9, aI g 32 (fun _ => 0)), (q_10, ob 0 [.ref a1_11, .int (iI 0), .int (iI 0), .int (iI 7)]), (a1_11, aB g 64 (fun _ => 0)), (q_12, ob 0 [.ref a1_13, .int (iI 0), .int (iI 0), .int (iI 7)]), (a1_13, aB g 64 (fun _ => 0)), (q_14, ob 6 [.ref q_7, .int (iI z_4), .ref q_10, .ref td_15]), (td_15, ob 5 [.ref q_7, .int (iI z_4), .int (iI 0), .int (iI 0), .int (iI 0), .int (iI 0)]), (q_16, ob 3 [.int (iI z_4), .ref yr_17, .ref ym_20, .ref yd_23, .ref yt1_24, .ref yt2_26, .ref yt3_28, .ref ytd_30, .ref q_12]), (yr_17, ob 2 [.ref yrs_18, .ref yri_19, .int (iI 0)]), (yrs_18, aI g 27 (fun _ => 0)), (yri_19, aI g 32 (fun _ => 0)), (ym_20, ob 2 [.ref yms_21, .ref ymi_22, .int (iI 0)]), (yms_21, aI g 27 (fun _ => 0)), (ymi_22, aI g 32 (fun _ => 0)), (yd_23, aZ g 25 (fun _ => 0)), (yt1_24, ob 1 [.ref yb1_25, .int yc1_37]), (yb1_25, aI g yn1_31 yf1_34), (yt2_26, ob 1 [.ref yb2_27, .int yc2_38]), (yb2_27, aI g yn2_32 yf2_35), (yt3_28, ob 1 [.ref yb3_29, .int yc3_39]), (yb3_29, aI g yn3_33 yf3_36), (ytd_30, ob 5 [.ref yr_17, .int (iI z_4), .int (iI 0), .int (iI 0), .int (iI 0), .int (iI 0)])] [0, 1, 2, 3, 4, 5, 6, 7, 8, 9, 10, 11, 12, 13, 14, 15, 16, 17, 18, 19, 20, 21, 22, 23, 24, 25, 26] hr dX7_init_122 rfl rfl (nl rfl) (nl rfl) ⟨z_2, z_4, q_5, a1_6, q_7, a1_8, a2_9, q_10, a1_11, q_12, a1_13, q_14, td_15, q_16, yr_17, yrs_18, yri_19, ym_20, yms_21, ymi_22, yd_23, yt1_24, yb1_25, yt2_26, yb2_27, yt3_28, yb3_29, ytd_30, yn1_31, yn2_32, yn3_33, yf1_34, yf2_35, yf3_36, yc1_37, yc2_38, yc3_39, rfl, rfl, (by first | omega | rfl | assumption), (by first | omega | rfl | assumption), (by first | omega | rfl | assumption), (by first | omega | rfl | assumption), (by first | omega | rfl | assumption), (by first | omega | rfl | assumption)⟩
