/-! THE REFERENCE'S METHODS, as far as a fresh object needs them -/
theorem iI_div {a : Int} (h : 0 ≤ a ∧ a < 2147483648) (d : Nat) (h0 : 0 < d) (hd : d < 2147483648) : iI a / iI (d : Int) = iI (a / (d : Int)) := by
  obtain ⟨n, rfl⟩ := Int.eq_ofNat_of_zero_le h.1
  have := pk_div (a := n) (d := d) (by omega) h0 (by omega)
  rw [iI_nI, iI_nI, iI_nI] at this
  rw [show ((n : Nat) : Int) / ((d : Nat) : Int) = ((n / d : Nat) : Int) from rfl]
  exact this
theorem iI_rem {a : Int} (h : 0 ≤ a ∧ a < 2147483648) (d : Nat) (h0 : 0 < d) (hd : d < 2147483648) : iI a - iI a / iI (d : Int) * iI (d : Int) = iI (a % (d : Int)) := by
  obtain ⟨n, rfl⟩ := Int.eq_ofNat_of_zero_le h.1
  have := pk_rem (a := n) (d := d) (by omega) h0 (by omega)
  rw [iI_nI, iI_nI, iI_nI] at this
  rw [show ((n : Nat) : Int) % ((d : Nat) : Int) = ((n % d : Nat) : Int) from rfl]
  exact this
theorem dX8_thrown_0 : decode cX8_thrown 0 = .ok (.aload_n 0, 1) := by decide +kernel
theorem dX8_thrown_1 : decode cX8_thrown 1 = .ok (.getfield 66, 3) := by decide +kernel
theorem dX8_thrown_4 : decode cX8_thrown 4 = .ok (.ireturn, 1) := by decide +kernel
abbrev po_c_X8_thrown (g : GG) (h0 : Nat) (xa : Nat) (xb : Nat) (xc : Nat) (xd : Nat) (xe : Nat) (xf : Nat) (xg : Nat) (xm : Nat) (xv : Nat) (xw : Nat) (xq : Nat) (xr : Nat) (xh : Nat) (xo : Nat) (xp : Nat) (vc : Int) (vk : Int) (vw : Int) (vg : Int) (vb : Int) (vi : Int) (ve : Int) (vf : Int) (vu : Int) (vl : Int) (vr : Int) (va : Int) (vt : Int) (vm : Int) (vd : Int) (vx : Int) : Option Value → va_W → Prop := fun v8 w8 => v8 = some (.int (iI vc)) ∧ w8 = [(h0, ob 8 [.ref xa, .ref xb, .ref xc, .ref xd, .ref xe, .ref xf, .ref xg, .int (iI vc), .int (iI vk), .int (iI vw), .ref xm, .ref xv, .int (iI vg), .ref xw, .int (iI vb), .int (iI vi), .ref xq, .int (iI ve), .int (iI vf), .int (iI vu), .int (iI vl), .ref xr, .ref xh, .ref xo, .ref xp, .int (iI vr), .int (iI va), .int (iI vt), .int (iI vm), .int (iI vd), .int (iI vx)])]
set_option maxHeartbeats 4000000 in
set_option maxRecDepth 100000 in
theorem c_X8_thrown (l : Launch) (g : GG) (h0 : Nat) (xa : Nat) (xb : Nat) (xc : Nat) (xd : Nat) (xe : Nat) (xf : Nat) (xg : Nat) (xm : Nat) (xv : Nat) (xw : Nat) (xq : Nat) (xr : Nat) (xh : Nat) (xo : Nat) (xp : Nat) (vc : Int) (vk : Int) (vw : Int) (vg : Int) (vb : Int) (vi : Int) (ve : Int) (vf : Int) (vu : Int) (vl : Int) (vr : Int) (va : Int) (vt : Int) (vm : Int) (vd : Int) (vx : Int) : Ct l g yX8_thrown (wM yX8_thrown cX8_thrown 1 (some .int)) (rmD 0 0 0) [.ref h0] [(h0, ob 8 [.ref xa, .ref xb, .ref xc, .ref xd, .ref xe, .ref xf, .ref xg, .int (iI vc), .int (iI vk), .int (iI vw), .ref xm, .ref xv, .int (iI vg), .ref xw, .int (iI vb), .int (iI vi), .ref xq, .int (iI ve), .int (iI vf), .int (iI vu), .int (iI vl), .ref xr, .ref xh, .ref xo, .ref xp, .int (iI vr), .int (iI va), .int (iI vt), .int (iI vm), .int (iI vd), .int (iI vx)])] (po_c_X8_thrown g h0 xa xb xc xd xe xf xg xm xv xw xq xr xh xo xp vc vk vw vg vb vi ve vf vu vl vr va vt vm vd vx) := by
  refine Ct_of (by decide +kernel) (Nat.le_of_ble_eq_true rfl) ?_
  intro p9 e9 s9 m9 ag9 bl9 mt9 c9 A9 fx hr hnm
  refine v_aload_n fx 0 dX8_thrown_0 rfl rfl ?_
  refine v_get fx 0 7 inX8 k1003 dX8_thrown_1 rfl rfl (by decide) rfl rfl rfl ?_
  exact v_iret fx [(h0, ob 8 [.ref xa, .ref xb, .ref xc, .ref xd, .ref xe, .ref xf, .ref xg, .int (iI vc), .int (iI vk), .int (iI vw), .ref xm, .ref xv, .int (iI vg), .ref xw, .int (iI vb), .int (iI vi), .ref xq, .int (iI ve), .int (iI vf), .int (iI vu), .int (iI vl), .ref xr, .ref xh, .ref xo, .ref xp, .int (iI vr), .int (iI va), .int (iI vt), .int (iI vm), .int (iI vd), .int (iI vx)])] [0] hr dX8_thrown_4 rfl rfl (nl rfl) (nl rfl) ⟨rfl, rfl⟩
theorem dX8_put_0 : decode cX8_put 0 = .ok (.aload_n 0, 1) := by decide +kernel
theorem dX8_put_1 : decode cX8_put 1 = .ok (.iconst 0, 1) := by decide +kernel
theorem dX8_put_2 : decode cX8_put 2 = .ok (.putfield 66, 3) := by decide +kernel
theorem dX8_put_5 : decode cX8_put 5 = .ok (.iload_n 1, 1) := by decide +kernel
theorem dX8_put_6 : decode cX8_put 6 = .ok (.ifCond .lt 11, 3) := by decide +kernel
theorem dX8_put_9 : decode cX8_put 9 = .ok (.iload_n 1, 1) := by decide +kernel
theorem dX8_put_10 : decode cX8_put 10 = .ok (.aload_n 0, 1) := by decide +kernel
theorem dX8_put_11 : decode cX8_put 11 = .ok (.getfield 63, 3) := by decide +kernel
theorem dX8_put_14 : decode cX8_put 14 = .ok (.if_icmp .lt 5, 3) := by decide +kernel
theorem dX8_put_17 : decode cX8_put 17 = .ok (.iconst 0, 1) := by decide +kernel
theorem dX8_put_18 : decode cX8_put 18 = .ok (.ireturn, 1) := by decide +kernel
theorem dX8_put_19 : decode cX8_put 19 = .ok (.aload_n 0, 1) := by decide +kernel
theorem dX8_put_20 : decode cX8_put 20 = .ok (.getfield 31, 3) := by decide +kernel
theorem dX8_put_23 : decode cX8_put 23 = .ok (.iload_n 1, 1) := by decide +kernel
theorem dX8_put_24 : decode cX8_put 24 = .ok (.iload_n 2, 1) := by decide +kernel
theorem dX8_put_25 : decode cX8_put 25 = .ok (.bastore, 1) := by decide +kernel
theorem dX8_put_26 : decode cX8_put 26 = .ok (.iconst 1, 1) := by decide +kernel
theorem dX8_put_27 : decode cX8_put 27 = .ok (.ireturn, 1) := by decide +kernel
abbrev po_c_X8_put (g : GG) (h0 : Nat) (xa : Nat) (xb : Nat) (xc : Nat) (xd : Nat) (xe : Nat) (xf : Nat) (xg : Nat) (xm : Nat) (xv : Nat) (xw : Nat) (xq : Nat) (xr : Nat) (xh : Nat) (xo : Nat) (xp : Nat) (vc : Int) (vk : Int) (vw : Int) (vg : Int) (vb : Int) (vi : Int) (ve : Int) (vf : Int) (vu : Int) (vl : Int) (vr : Int) (va : Int) (vt : Int) (vm : Int) (vd : Int) (vx : Int) (f : Nat → Int32) (x : Int) (on : Int) : Option Value → va_W → Prop := fun v8 w8 => ∃ r : Int, ∃ f2 : Nat → Int32, v8 = some (.int (iI r)) ∧ w8 = [(h0, ob 8 [.ref xa, .ref xb, .ref xc, .ref xd, .ref xe, .ref xf, .ref xg, .int (iI 0), .int (iI vk), .int (iI vw), .ref xm, .ref xv, .int (iI vg), .ref xw, .int (iI vb), .int (iI vi), .ref xq, .int (iI ve), .int (iI vf), .int (iI vu), .int (iI vl), .ref xr, .ref xh, .ref xo, .ref xp, .int (iI vr), .int (iI va), .int (iI vt), .int (iI vm), .int (iI vd), .int (iI vx)]), (xm, aZ g 3000 f2)] ∧ ((r = 1 ∧ 0 ≤ x ∧ x < vw) ∨ (r = 0 ∧ (x < 0 ∨ vw ≤ x)))
set_option maxHeartbeats 4000000 in
set_option maxRecDepth 100000 in
theorem c_X8_put (l : Launch) (g : GG) (h0 : Nat) (xa : Nat) (xb : Nat) (xc : Nat) (xd : Nat) (xe : Nat) (xf : Nat) (xg : Nat) (xm : Nat) (xv : Nat) (xw : Nat) (xq : Nat) (xr : Nat) (xh : Nat) (xo : Nat) (xp : Nat) (vc : Int) (vk : Int) (vw : Int) (vg : Int) (vb : Int) (vi : Int) (ve : Int) (vf : Int) (vu : Int) (vl : Int) (vr : Int) (va : Int) (vt : Int) (vm : Int) (vd : Int) (vx : Int) (f : Nat → Int32) (x : Int) (on : Int) (hp0 : -2147483648 ≤ x ∧ x < 2147483648) (hp1 : 1 ≤ vw ∧ vw ≤ 3000) : Ct l g yX8_put (wM yX8_put cX8_put 3 (some .boolean)) (rmD 0 0 0) [.ref h0, .int (iI x), .int (iI on)] [(h0, ob 8 [.ref xa, .ref xb, .ref xc, .ref xd, .ref xe, .ref xf, .ref xg, .int (iI vc), .int (iI vk), .int (iI vw), .ref xm, .ref xv, .int (iI vg), .ref xw, .int (iI vb), .int (iI vi), .ref xq, .int (iI ve), .int (iI vf), .int (iI vu), .int (iI vl), .ref xr, .ref xh, .ref xo, .ref xp, .int (iI vr), .int (iI va), .int (iI vt), .int (iI vm), .int (iI vd), .int (iI vx)]), (xm, aZ g 3000 f)] (po_c_X8_put g h0 xa xb xc xd xe xf xg xm xv xw xq xr xh xo xp vc vk vw vg vb vi ve vf vu vl vr va vt vm vd vx f x on) := by
  refine Ct_of (by decide +kernel) (Nat.le_of_ble_eq_true rfl) ?_
  intro p9 e9 s9 m9 ag9 bl9 mt9 c9 A9 fx hr hnm
  refine v_aload_n fx 0 dX8_put_0 rfl rfl ?_
  refine v_iconst fx dX8_put_1 rfl ?_
  refine v_put fx 0 7 [(h0, ob 8 [.ref xa, .ref xb, .ref xc, .ref xd, .ref xe, .ref xf, .ref xg, .int (iI 0), .int (iI vk), .int (iI vw), .ref xm, .ref xv, .int (iI vg), .ref xw, .int (iI vb), .int (iI vi), .ref xq, .int (iI ve), .int (iI vf), .int (iI vu), .int (iI vl), .ref xr, .ref xh, .ref xo, .ref xp, .int (iI vr), .int (iI va), .int (iI vt), .int (iI vm), .int (iI vd), .int (iI vx)]), (xm, aZ g 3000 f)] inX8 tyX8_ok nmX8 k1003 dX8_put_2 rfl rfl (by decide) rfl rfl rfl rfl (nl rfl) rfl rfl ?_
  refine v_iload_n fx 1 dX8_put_5 rfl rfl ?_
  refine v_if_lt fx 17 dX8_put_6 (by decide) rfl (by omega) (fun h_1 => ?_) (fun h_1 => ?_)
  ·
    refine v_iconst fx dX8_put_17 rfl ?_
    exact v_zret fx [(h0, ob 8 [.ref xa, .ref xb, .ref xc, .ref xd, .ref xe, .ref xf, .ref xg, .int (iI 0), .int (iI vk), .int (iI vw), .ref xm, .ref xv, .int (iI vg), .ref xw, .int (iI vb), .int (iI vi), .ref xq, .int (iI ve), .int (iI vf), .int (iI vu), .int (iI vl), .ref xr, .ref xh, .ref xo, .ref xp, .int (iI vr), .int (iI va), .int (iI vt), .int (iI vm), .int (iI vd), .int (iI vx)]), (xm, aZ g 3000 f)] [0, 1] hr dX8_put_18 (by first | rfl | exact nar_z _ (by omega)) rfl rfl (nl rfl) (nl rfl) ⟨0, f, rfl, rfl, (by first | omega | rfl | assumption)⟩
  ·
    refine v_iload_n fx 1 dX8_put_9 rfl rfl ?_
    refine v_aload_n fx 0 dX8_put_10 rfl rfl ?_
    refine v_get fx 0 9 inX8 k1005 dX8_put_11 rfl rfl (by decide) rfl rfl rfl ?_
    refine v_icmp_lt fx 19 dX8_put_14 (by decide) rfl (by omega) (by omega) (fun h_2 => ?_) (fun h_2 => ?_)
    ·
      refine v_aload_n fx 0 dX8_put_19 rfl rfl ?_
      refine v_get fx 0 10 inX8 k1006 dX8_put_20 rfl rfl (by decide) rfl rfl rfl ?_
      refine v_iload_n fx 1 dX8_put_23 rfl rfl ?_
      refine v_iload_n fx 2 dX8_put_24 rfl rfl ?_
      obtain ⟨f_3, ef_3⟩ : ∃ f9 : Nat → Int32, upd f (x).toNat (vp_nar .boolean (iI on)) = f9 := ⟨_, rfl⟩
      refine v_zast fx 1 f_3 [(h0, ob 8 [.ref xa, .ref xb, .ref xc, .ref xd, .ref xe, .ref xf, .ref xg, .int (iI 0), .int (iI vk), .int (iI vw), .ref xm, .ref xv, .int (iI vg), .ref xw, .int (iI vb), .int (iI vi), .ref xq, .int (iI ve), .int (iI vf), .int (iI vu), .int (iI vl), .ref xr, .ref xh, .ref xo, .ref xp, .int (iI vr), .int (iI va), .int (iI vt), .int (iI vm), .int (iI vd), .int (iI vx)]), (xm, aZ g 3000 f_3)] dX8_put_25 rfl (by omega) (by omega) ef_3 rfl rfl ?_
      refine v_iconst fx dX8_put_26 rfl ?_
      exact v_zret fx [(h0, ob 8 [.ref xa, .ref xb, .ref xc, .ref xd, .ref xe, .ref xf, .ref xg, .int (iI 0), .int (iI vk), .int (iI vw), .ref xm, .ref xv, .int (iI vg), .ref xw, .int (iI vb), .int (iI vi), .ref xq, .int (iI ve), .int (iI vf), .int (iI vu), .int (iI vl), .ref xr, .ref xh, .ref xo, .ref xp, .int (iI vr), .int (iI va), .int (iI vt), .int (iI vm), .int (iI vd), .int (iI vx)]), (xm, aZ g 3000 f_3)] [0, 1] hr dX8_put_27 (by first | rfl | exact nar_z _ (by omega)) rfl rfl (nl rfl) (nl rfl) ⟨1, f_3, rfl, rfl, (by first | omega | rfl | assumption)⟩
    ·
      refine v_iconst fx dX8_put_17 rfl ?_
      exact v_zret fx [(h0, ob 8 [.ref xa, .ref xb, .ref xc, .ref xd, .ref xe, .ref xf, .ref xg, .int (iI 0), .int (iI vk), .int (iI vw), .ref xm, .ref xv, .int (iI vg), .ref xw, .int (iI vb), .int (iI vi), .ref xq, .int (iI ve), .int (iI vf), .int (iI vu), .int (iI vl), .ref xr, .ref xh, .ref xo, .ref xp, .int (iI vr), .int (iI va), .int (iI vt), .int (iI vm), .int (iI vd), .int (iI vx)]), (xm, aZ g 3000 f)] [0, 1] hr dX8_put_18 (by first | rfl | exact nar_z _ (by omega)) rfl rfl (nl rfl) (nl rfl) ⟨0, f, rfl, rfl, (by first | omega | rfl | assumption)⟩
theorem dX8_endRow_0 : decode cX8_endRow 0 = .ok (.aload_n 0, 1) := by decide +kernel
theorem dX8_endRow_1 : decode cX8_endRow 1 = .ok (.iconst 0, 1) := by decide +kernel
theorem dX8_endRow_2 : decode cX8_endRow 2 = .ok (.putfield 66, 3) := by decide +kernel
theorem dX8_endRow_5 : decode cX8_endRow 5 = .ok (.aload_n 0, 1) := by decide +kernel
theorem dX8_endRow_6 : decode cX8_endRow 6 = .ok (.getfield 69, 3) := by decide +kernel
theorem dX8_endRow_9 : decode cX8_endRow 9 = .ok (.bipush 24, 2) := by decide +kernel
theorem dX8_endRow_11 : decode cX8_endRow 11 = .ok (.if_icmp .ne 5, 3) := by decide +kernel
theorem dX8_endRow_14 : decode cX8_endRow 14 = .ok (.iconst 0, 1) := by decide +kernel
theorem dX8_endRow_15 : decode cX8_endRow 15 = .ok (.ireturn, 1) := by decide +kernel
theorem dX8_endRow_16 : decode cX8_endRow 16 = .ok (.iconst 0, 1) := by decide +kernel
theorem dX8_endRow_17 : decode cX8_endRow 17 = .ok (.istore_n 1, 1) := by decide +kernel
theorem dX8_endRow_18 : decode cX8_endRow 18 = .ok (.iload_n 1, 1) := by decide +kernel
theorem dX8_endRow_19 : decode cX8_endRow 19 = .ok (.aload_n 0, 1) := by decide +kernel
theorem dX8_endRow_20 : decode cX8_endRow 20 = .ok (.getfield 63, 3) := by decide +kernel
theorem dX8_endRow_23 : decode cX8_endRow 23 = .ok (.if_icmp .ge 37, 3) := by decide +kernel
theorem dX8_endRow_26 : decode cX8_endRow 26 = .ok (.aload_n 0, 1) := by decide +kernel
theorem dX8_endRow_27 : decode cX8_endRow 27 = .ok (.getfield 36, 3) := by decide +kernel
theorem dX8_endRow_30 : decode cX8_endRow 30 = .ok (.sipush 3000, 3) := by decide +kernel
theorem dX8_endRow_33 : decode cX8_endRow 33 = .ok (.aload_n 0, 1) := by decide +kernel
theorem dX8_endRow_34 : decode cX8_endRow 34 = .ok (.getfield 69, 3) := by decide +kernel
theorem dX8_endRow_37 : decode cX8_endRow 37 = .ok (.imul, 1) := by decide +kernel
theorem dX8_endRow_38 : decode cX8_endRow 38 = .ok (.iload_n 1, 1) := by decide +kernel
theorem dX8_endRow_39 : decode cX8_endRow 39 = .ok (.iadd, 1) := by decide +kernel
theorem dX8_endRow_40 : decode cX8_endRow 40 = .ok (.aload_n 0, 1) := by decide +kernel
theorem dX8_endRow_41 : decode cX8_endRow 41 = .ok (.getfield 31, 3) := by decide +kernel
theorem dX8_endRow_44 : decode cX8_endRow 44 = .ok (.iload_n 1, 1) := by decide +kernel
theorem dX8_endRow_45 : decode cX8_endRow 45 = .ok (.baload, 1) := by decide +kernel
theorem dX8_endRow_46 : decode cX8_endRow 46 = .ok (.bastore, 1) := by decide +kernel
theorem dX8_endRow_47 : decode cX8_endRow 47 = .ok (.aload_n 0, 1) := by decide +kernel
theorem dX8_endRow_48 : decode cX8_endRow 48 = .ok (.getfield 31, 3) := by decide +kernel
theorem dX8_endRow_51 : decode cX8_endRow 51 = .ok (.iload_n 1, 1) := by decide +kernel
theorem dX8_endRow_52 : decode cX8_endRow 52 = .ok (.iconst 0, 1) := by decide +kernel
theorem dX8_endRow_53 : decode cX8_endRow 53 = .ok (.bastore, 1) := by decide +kernel
theorem dX8_endRow_54 : decode cX8_endRow 54 = .ok (.iinc 1 1, 3) := by decide +kernel
theorem dX8_endRow_57 : decode cX8_endRow 57 = .ok (.goto (-39), 3) := by decide +kernel
theorem dX8_endRow_60 : decode cX8_endRow 60 = .ok (.aload_n 0, 1) := by decide +kernel
theorem dX8_endRow_61 : decode cX8_endRow 61 = .ok (.dup, 1) := by decide +kernel
theorem dX8_endRow_62 : decode cX8_endRow 62 = .ok (.getfield 69, 3) := by decide +kernel
theorem dX8_endRow_65 : decode cX8_endRow 65 = .ok (.iconst 1, 1) := by decide +kernel
theorem dX8_endRow_66 : decode cX8_endRow 66 = .ok (.iadd, 1) := by decide +kernel
theorem dX8_endRow_67 : decode cX8_endRow 67 = .ok (.putfield 69, 3) := by decide +kernel
theorem dX8_endRow_70 : decode cX8_endRow 70 = .ok (.iconst 1, 1) := by decide +kernel
theorem dX8_endRow_71 : decode cX8_endRow 71 = .ok (.ireturn, 1) := by decide +kernel
abbrev po_c_X8_endRow (g : GG) (h0 : Nat) (xa : Nat) (xb : Nat) (xc : Nat) (xd : Nat) (xe : Nat) (xf : Nat) (xg : Nat) (xm : Nat) (xv : Nat) (xw : Nat) (xq : Nat) (xr : Nat) (xh : Nat) (xo : Nat) (xp : Nat) (vc : Int) (vk : Int) (vw : Int) (vg : Int) (vb : Int) (vi : Int) (ve : Int) (vf : Int) (vu : Int) (vl : Int) (vr : Int) (va : Int) (vt : Int) (vm : Int) (vd : Int) (vx : Int) (f : Nat → Int32) (fg : Nat → Int32) : Option Value → va_W → Prop := fun v8 w8 => ∃ r : Int, ∃ g2 : Int, ∃ f2 : Nat → Int32, ∃ f3 : Nat → Int32, v8 = some (.int (iI r)) ∧ w8 = [(h0, ob 8 [.ref xa, .ref xb, .ref xc, .ref xd, .ref xe, .ref xf, .ref xg, .int (iI 0), .int (iI vk), .int (iI vw), .ref xm, .ref xv, .int (iI g2), .ref xw, .int (iI vb), .int (iI vi), .ref xq, .int (iI ve), .int (iI vf), .int (iI vu), .int (iI vl), .ref xr, .ref xh, .ref xo, .ref xp, .int (iI vr), .int (iI va), .int (iI vt), .int (iI vm), .int (iI vd), .int (iI vx)]), (xm, aZ g 3000 f2), (xv, aZ g 72000 f3)] ∧ ((r = 1 ∧ vg < 24 ∧ g2 = vg + 1) ∨ (r = 0 ∧ vg = 24 ∧ g2 = vg))
set_option maxHeartbeats 4000000 in
set_option maxRecDepth 100000 in
theorem c_X8_endRow (l : Launch) (g : GG) (h0 : Nat) (xa : Nat) (xb : Nat) (xc : Nat) (xd : Nat) (xe : Nat) (xf : Nat) (xg : Nat) (xm : Nat) (xv : Nat) (xw : Nat) (xq : Nat) (xr : Nat) (xh : Nat) (xo : Nat) (xp : Nat) (vc : Int) (vk : Int) (vw : Int) (vg : Int) (vb : Int) (vi : Int) (ve : Int) (vf : Int) (vu : Int) (vl : Int) (vr : Int) (va : Int) (vt : Int) (vm : Int) (vd : Int) (vx : Int) (f : Nat → Int32) (fg : Nat → Int32) (hp0 : 0 ≤ vg ∧ vg ≤ 24) (hp1 : 1 ≤ vw ∧ vw ≤ 3000) : Ct l g yX8_endRow (wM yX8_endRow cX8_endRow 2 (some .boolean)) (rmD 0 0 0) [.ref h0] [(h0, ob 8 [.ref xa, .ref xb, .ref xc, .ref xd, .ref xe, .ref xf, .ref xg, .int (iI vc), .int (iI vk), .int (iI vw), .ref xm, .ref xv, .int (iI vg), .ref xw, .int (iI vb), .int (iI vi), .ref xq, .int (iI ve), .int (iI vf), .int (iI vu), .int (iI vl), .ref xr, .ref xh, .ref xo, .ref xp, .int (iI vr), .int (iI va), .int (iI vt), .int (iI vm), .int (iI vd), .int (iI vx)]), (xm, aZ g 3000 f), (xv, aZ g 72000 fg)] (po_c_X8_endRow g h0 xa xb xc xd xe xf xg xm xv xw xq xr xh xo xp vc vk vw vg vb vi ve vf vu vl vr va vt vm vd vx f fg) := by
  refine Ct_of (by decide +kernel) (Nat.le_of_ble_eq_true rfl) ?_
  intro p9 e9 s9 m9 ag9 bl9 mt9 c9 A9 fx hr hnm
  refine v_aload_n fx 0 dX8_endRow_0 rfl rfl ?_
  refine v_iconst fx dX8_endRow_1 rfl ?_
  refine v_put fx 0 7 [(h0, ob 8 [.ref xa, .ref xb, .ref xc, .ref xd, .ref xe, .ref xf, .ref xg, .int (iI 0), .int (iI vk), .int (iI vw), .ref xm, .ref xv, .int (iI vg), .ref xw, .int (iI vb), .int (iI vi), .ref xq, .int (iI ve), .int (iI vf), .int (iI vu), .int (iI vl), .ref xr, .ref xh, .ref xo, .ref xp, .int (iI vr), .int (iI va), .int (iI vt), .int (iI vm), .int (iI vd), .int (iI vx)]), (xm, aZ g 3000 f), (xv, aZ g 72000 fg)] inX8 tyX8_ok nmX8 k1003 dX8_endRow_2 rfl rfl (by decide) rfl rfl rfl rfl (nl rfl) rfl rfl ?_
  refine v_aload_n fx 0 dX8_endRow_5 rfl rfl ?_
  refine v_get fx 0 12 inX8 k1008 dX8_endRow_6 rfl rfl (by decide) rfl rfl rfl ?_
  refine v_bipush fx dX8_endRow_9 (by decide +kernel) rfl ?_
  refine v_icmp_ne fx 16 dX8_endRow_11 (by decide) rfl (by omega) (by omega) (fun h_1 => ?_) (fun h_1 => ?_)
  ·
    refine v_iconst fx dX8_endRow_16 rfl ?_
    refine v_istore_n fx [(1, .int (iI 0)), (0, .ref h0)] dX8_endRow_17 (by decide) rfl rfl ?_
    have L18 : ∀ (N : Nat) (i : Int) (f4 : Nat → Int32) (f5 : Nat → Int32), (0 ≤ i ∧ i ≤ vw) → (vg < 24) → ((vw - i).toNat) < N → V p9 l e9 (rmD 0 0 0) s9 m9 ag9 bl9 mt9 c9 2 g A9 (MQ bl9 (cQ g (po_c_X8_endRow g h0 xa xb xc xd xe xf xg xm xv xw xq xr xh xo xp vc vk vw vg vb vi ve vf vu vl vr va vt vm vd vx f fg) A9) ag9 s9 0 0 A9) [(h0, ob 8 [.ref xa, .ref xb, .ref xc, .ref xd, .ref xe, .ref xf, .ref xg, .int (iI 0), .int (iI vk), .int (iI vw), .ref xm, .ref xv, .int (iI vg), .ref xw, .int (iI vb), .int (iI vi), .ref xq, .int (iI ve), .int (iI vf), .int (iI vu), .int (iI vl), .ref xr, .ref xh, .ref xo, .ref xp, .int (iI vr), .int (iI va), .int (iI vt), .int (iI vm), .int (iI vd), .int (iI vx)]), (xm, aZ g 3000 f4), (xv, aZ g 72000 f5)] 0 0 [(0, .ref h0), (1, .int (iI i))] 18 [] := by
      intro N
      induction N with
      | zero => intro i f4 f5 hi18_0 hi18_1 hN; exact absurd hN (Nat.not_lt_zero _)
      | succ N ihL18 =>
        intro i f4 f5 hi18_0 hi18_1 hN18
        refine v_iload_n fx 1 dX8_endRow_18 rfl rfl ?_
        refine v_aload_n fx 0 dX8_endRow_19 rfl rfl ?_
        refine v_get fx 0 9 inX8 k1005 dX8_endRow_20 rfl rfl (by decide) rfl rfl rfl ?_
        refine v_icmp_ge fx 60 dX8_endRow_23 (by decide) rfl (by omega) (by omega) (fun h_2 => ?_) (fun h_2 => ?_)
        ·
          refine v_aload_n fx 0 dX8_endRow_60 rfl rfl ?_
          refine v_dup fx dX8_endRow_61 rfl rfl ?_
          refine v_get fx 0 12 inX8 k1008 dX8_endRow_62 rfl rfl (by decide) rfl rfl rfl ?_
          refine v_iconst fx dX8_endRow_65 rfl ?_
          refine v_iadd fx (vg + 1) dX8_endRow_66 (by rfl) rfl ?_
          refine v_put fx 0 12 [(h0, ob 8 [.ref xa, .ref xb, .ref xc, .ref xd, .ref xe, .ref xf, .ref xg, .int (iI 0), .int (iI vk), .int (iI vw), .ref xm, .ref xv, .int (iI (vg + 1)), .ref xw, .int (iI vb), .int (iI vi), .ref xq, .int (iI ve), .int (iI vf), .int (iI vu), .int (iI vl), .ref xr, .ref xh, .ref xo, .ref xp, .int (iI vr), .int (iI va), .int (iI vt), .int (iI vm), .int (iI vd), .int (iI vx)]), (xm, aZ g 3000 f4), (xv, aZ g 72000 f5)] inX8 tyX8_ok nmX8 k1008 dX8_endRow_67 rfl rfl (by decide) rfl rfl rfl rfl (nl rfl) rfl rfl ?_
          refine v_iconst fx dX8_endRow_70 rfl ?_
          exact v_zret fx [(h0, ob 8 [.ref xa, .ref xb, .ref xc, .ref xd, .ref xe, .ref xf, .ref xg, .int (iI 0), .int (iI vk), .int (iI vw), .ref xm, .ref xv, .int (iI (vg + 1)), .ref xw, .int (iI vb), .int (iI vi), .ref xq, .int (iI ve), .int (iI vf), .int (iI vu), .int (iI vl), .ref xr, .ref xh, .ref xo, .ref xp, .int (iI vr), .int (iI va), .int (iI vt), .int (iI vm), .int (iI vd), .int (iI vx)]), (xm, aZ g 3000 f4), (xv, aZ g 72000 f5)] [0, 1, 2] hr dX8_endRow_71 (by first | rfl | exact nar_z _ (by omega)) rfl rfl (nl rfl) (nl rfl) ⟨1, (vg + 1), f4, f5, rfl, rfl, (by first | omega | rfl | assumption)⟩
        ·
          refine v_aload_n fx 0 dX8_endRow_26 rfl rfl ?_
          refine v_get fx 0 11 inX8 k1007 dX8_endRow_27 rfl rfl (by decide) rfl rfl rfl ?_
          refine v_sipush fx dX8_endRow_30 (by decide +kernel) rfl ?_
          refine v_aload_n fx 0 dX8_endRow_33 rfl rfl ?_
          refine v_get fx 0 12 inX8 k1008 dX8_endRow_34 rfl rfl (by decide) rfl rfl rfl ?_
          refine v_imul fx (3000 * vg) dX8_endRow_37 (by rfl) rfl ?_
          refine v_iload_n fx 1 dX8_endRow_38 rfl rfl ?_
          refine v_iadd fx ((3000 * vg) + i) dX8_endRow_39 (by rfl) rfl ?_
          refine v_aload_n fx 0 dX8_endRow_40 rfl rfl ?_
          refine v_get fx 0 10 inX8 k1006 dX8_endRow_41 rfl rfl (by decide) rfl rfl rfl ?_
          refine v_iload_n fx 1 dX8_endRow_44 rfl rfl ?_
          refine v_zald fx 1 dX8_endRow_45 rfl (by omega) (by omega) rfl ?_
          obtain ⟨f_3, ef_3⟩ : ∃ f9 : Nat → Int32, upd f5 ((3000 * vg) + i).toNat (vp_nar .boolean (f4 (i).toNat)) = f9 := ⟨_, rfl⟩
          refine v_zast fx 2 f_3 [(h0, ob 8 [.ref xa, .ref xb, .ref xc, .ref xd, .ref xe, .ref xf, .ref xg, .int (iI 0), .int (iI vk), .int (iI vw), .ref xm, .ref xv, .int (iI vg), .ref xw, .int (iI vb), .int (iI vi), .ref xq, .int (iI ve), .int (iI vf), .int (iI vu), .int (iI vl), .ref xr, .ref xh, .ref xo, .ref xp, .int (iI vr), .int (iI va), .int (iI vt), .int (iI vm), .int (iI vd), .int (iI vx)]), (xm, aZ g 3000 f4), (xv, aZ g 72000 f_3)] dX8_endRow_46 rfl (by omega) (by omega) ef_3 rfl rfl ?_
          refine v_aload_n fx 0 dX8_endRow_47 rfl rfl ?_
          refine v_get fx 0 10 inX8 k1006 dX8_endRow_48 rfl rfl (by decide) rfl rfl rfl ?_
          refine v_iload_n fx 1 dX8_endRow_51 rfl rfl ?_
          refine v_iconst fx dX8_endRow_52 rfl ?_
          obtain ⟨f_4, ef_4⟩ : ∃ f9 : Nat → Int32, upd f4 (i).toNat (vp_nar .boolean (iI 0)) = f9 := ⟨_, rfl⟩
          refine v_zast fx 1 f_4 [(h0, ob 8 [.ref xa, .ref xb, .ref xc, .ref xd, .ref xe, .ref xf, .ref xg, .int (iI 0), .int (iI vk), .int (iI vw), .ref xm, .ref xv, .int (iI vg), .ref xw, .int (iI vb), .int (iI vi), .ref xq, .int (iI ve), .int (iI vf), .int (iI vu), .int (iI vl), .ref xr, .ref xh, .ref xo, .ref xp, .int (iI vr), .int (iI va), .int (iI vt), .int (iI vm), .int (iI vd), .int (iI vx)]), (xm, aZ g 3000 f_4), (xv, aZ g 72000 f_3)] dX8_endRow_53 rfl (by omega) (by omega) ef_4 rfl rfl ?_
          refine v_iinc fx 1 (i + 1) [(1, .int (iI (i + 1))), (0, .ref h0)] dX8_endRow_54 rfl (by omega) (by decide) rfl rfl ?_
          refine v_goto fx 18 dX8_endRow_57 (by decide) ?_
          refine v_lv [1, 0] [(0, .ref h0), (1, .int (iI (i + 1)))] rfl ?_
          exact ihL18 (i + 1) f_4 f_3 (by omega) (by omega) (by omega)
    refine v_lv [1, 0] [(0, .ref h0), (1, .int (iI 0))] rfl ?_
    exact L18 _ 0 f fg (by omega) (by omega) (Nat.lt_succ_self _)
  ·
    refine v_iconst fx dX8_endRow_14 rfl ?_
    exact v_zret fx [(h0, ob 8 [.ref xa, .ref xb, .ref xc, .ref xd, .ref xe, .ref xf, .ref xg, .int (iI 0), .int (iI vk), .int (iI vw), .ref xm, .ref xv, .int (iI vg), .ref xw, .int (iI vb), .int (iI vi), .ref xq, .int (iI ve), .int (iI vf), .int (iI vu), .int (iI vl), .ref xr, .ref xh, .ref xo, .ref xp, .int (iI vr), .int (iI va), .int (iI vt), .int (iI vm), .int (iI vd), .int (iI vx)]), (xm, aZ g 3000 f), (xv, aZ g 72000 fg)] [0, 1, 2] hr dX8_endRow_15 (by first | rfl | exact nar_z _ (by omega)) rfl rfl (nl rfl) (nl rfl) ⟨0, vg, f, fg, rfl, rfl, (by first | omega | rfl | assumption)⟩
theorem dX8_bit_0 : decode cX8_bit 0 = .ok (.aload_n 0, 1) := by decide +kernel
theorem dX8_bit_1 : decode cX8_bit 1 = .ok (.getfield 72, 3) := by decide +kernel
theorem dX8_bit_4 : decode cX8_bit 4 = .ok (.bipush 8, 2) := by decide +kernel
theorem dX8_bit_6 : decode cX8_bit 6 = .ok (.idiv, 1) := by decide +kernel
theorem dX8_bit_7 : decode cX8_bit 7 = .ok (.istore_n 2, 1) := by decide +kernel
theorem dX8_bit_8 : decode cX8_bit 8 = .ok (.aload_n 0, 1) := by decide +kernel
theorem dX8_bit_9 : decode cX8_bit 9 = .ok (.getfield 75, 3) := by decide +kernel
theorem dX8_bit_12 : decode cX8_bit 12 = .ok (.ifCond .eq 13, 3) := by decide +kernel
theorem dX8_bit_15 : decode cX8_bit 15 = .ok (.aload_n 0, 1) := by decide +kernel
theorem dX8_bit_16 : decode cX8_bit 16 = .ok (.getfield 72, 3) := by decide +kernel
theorem dX8_bit_19 : decode cX8_bit 19 = .ok (.bipush 8, 2) := by decide +kernel
theorem dX8_bit_21 : decode cX8_bit 21 = .ok (.irem, 1) := by decide +kernel
theorem dX8_bit_22 : decode cX8_bit 22 = .ok (.goto 13, 3) := by decide +kernel
theorem dX8_bit_25 : decode cX8_bit 25 = .ok (.bipush 7, 2) := by decide +kernel
theorem dX8_bit_27 : decode cX8_bit 27 = .ok (.aload_n 0, 1) := by decide +kernel
theorem dX8_bit_28 : decode cX8_bit 28 = .ok (.getfield 72, 3) := by decide +kernel
theorem dX8_bit_31 : decode cX8_bit 31 = .ok (.bipush 8, 2) := by decide +kernel
theorem dX8_bit_33 : decode cX8_bit 33 = .ok (.irem, 1) := by decide +kernel
theorem dX8_bit_34 : decode cX8_bit 34 = .ok (.isub, 1) := by decide +kernel
theorem dX8_bit_35 : decode cX8_bit 35 = .ok (.istore_n 3, 1) := by decide +kernel
theorem dX8_bit_36 : decode cX8_bit 36 = .ok (.aload_n 0, 1) := by decide +kernel
theorem dX8_bit_37 : decode cX8_bit 37 = .ok (.getfield 39, 3) := by decide +kernel
theorem dX8_bit_40 : decode cX8_bit 40 = .ok (.iload_n 2, 1) := by decide +kernel
theorem dX8_bit_41 : decode cX8_bit 41 = .ok (.aload_n 0, 1) := by decide +kernel
theorem dX8_bit_42 : decode cX8_bit 42 = .ok (.getfield 72, 3) := by decide +kernel
theorem dX8_bit_45 : decode cX8_bit 45 = .ok (.bipush 8, 2) := by decide +kernel
theorem dX8_bit_47 : decode cX8_bit 47 = .ok (.irem, 1) := by decide +kernel
theorem dX8_bit_48 : decode cX8_bit 48 = .ok (.ifCond .ne 9, 3) := by decide +kernel
theorem dX8_bit_51 : decode cX8_bit 51 = .ok (.iload_n 1, 1) := by decide +kernel
theorem dX8_bit_52 : decode cX8_bit 52 = .ok (.iload_n 3, 1) := by decide +kernel
theorem dX8_bit_53 : decode cX8_bit 53 = .ok (.ishl, 1) := by decide +kernel
theorem dX8_bit_54 : decode cX8_bit 54 = .ok (.goto 13, 3) := by decide +kernel
theorem dX8_bit_57 : decode cX8_bit 57 = .ok (.aload_n 0, 1) := by decide +kernel
theorem dX8_bit_58 : decode cX8_bit 58 = .ok (.getfield 39, 3) := by decide +kernel
theorem dX8_bit_61 : decode cX8_bit 61 = .ok (.iload_n 2, 1) := by decide +kernel
theorem dX8_bit_62 : decode cX8_bit 62 = .ok (.iaload, 1) := by decide +kernel
theorem dX8_bit_63 : decode cX8_bit 63 = .ok (.iload_n 1, 1) := by decide +kernel
theorem dX8_bit_64 : decode cX8_bit 64 = .ok (.iload_n 3, 1) := by decide +kernel
theorem dX8_bit_65 : decode cX8_bit 65 = .ok (.ishl, 1) := by decide +kernel
theorem dX8_bit_66 : decode cX8_bit 66 = .ok (.iadd, 1) := by decide +kernel
theorem dX8_bit_67 : decode cX8_bit 67 = .ok (.iastore, 1) := by decide +kernel
theorem dX8_bit_68 : decode cX8_bit 68 = .ok (.aload_n 0, 1) := by decide +kernel
theorem dX8_bit_69 : decode cX8_bit 69 = .ok (.dup, 1) := by decide +kernel
theorem dX8_bit_70 : decode cX8_bit 70 = .ok (.getfield 72, 3) := by decide +kernel
theorem dX8_bit_73 : decode cX8_bit 73 = .ok (.iconst 1, 1) := by decide +kernel
theorem dX8_bit_74 : decode cX8_bit 74 = .ok (.iadd, 1) := by decide +kernel
theorem dX8_bit_75 : decode cX8_bit 75 = .ok (.putfield 72, 3) := by decide +kernel
theorem dX8_bit_78 : decode cX8_bit 78 = .ok (.return_, 1) := by decide +kernel
abbrev po_c_X8_bit (g : GG) (h0 : Nat) (xa : Nat) (xb : Nat) (xc : Nat) (xd : Nat) (xe : Nat) (xf : Nat) (xg : Nat) (xm : Nat) (xv : Nat) (xw : Nat) (xq : Nat) (xr : Nat) (xh : Nat) (xo : Nat) (xp : Nat) (vc : Int) (vk : Int) (vw : Int) (vg : Int) (vb : Int) (vi : Int) (ve : Int) (vf : Int) (vu : Int) (vl : Int) (vr : Int) (va : Int) (vt : Int) (vm : Int) (vd : Int) (vx : Int) (f : Nat → Int32) (x : Int32) : Option Value → va_W → Prop := fun v8 w8 => ∃ f2 : Nat → Int32, v8 = none ∧ w8 = [(h0, ob 8 [.ref xa, .ref xb, .ref xc, .ref xd, .ref xe, .ref xf, .ref xg, .int (iI vc), .int (iI vk), .int (iI vw), .ref xm, .ref xv, .int (iI vg), .ref xw, .int (iI (vb + 1)), .int (iI vi), .ref xq, .int (iI ve), .int (iI vf), .int (iI vu), .int (iI vl), .ref xr, .ref xh, .ref xo, .ref xp, .int (iI vr), .int (iI va), .int (iI vt), .int (iI vm), .int (iI vd), .int (iI vx)]), (xw, aI g 72000 f2)]
set_option maxHeartbeats 4000000 in
set_option maxRecDepth 100000 in
theorem c_X8_bit (l : Launch) (g : GG) (h0 : Nat) (xa : Nat) (xb : Nat) (xc : Nat) (xd : Nat) (xe : Nat) (xf : Nat) (xg : Nat) (xm : Nat) (xv : Nat) (xw : Nat) (xq : Nat) (xr : Nat) (xh : Nat) (xo : Nat) (xp : Nat) (vc : Int) (vk : Int) (vw : Int) (vg : Int) (vb : Int) (vi : Int) (ve : Int) (vf : Int) (vu : Int) (vl : Int) (vr : Int) (va : Int) (vt : Int) (vm : Int) (vd : Int) (vx : Int) (f : Nat → Int32) (x : Int32) (hp0 : 0 ≤ vb ∧ vb < 576000) (hp1 : 0 ≤ vl ∧ vl ≤ 1) : Ct l g yX8_bit (wM yX8_bit cX8_bit 4 none) (rmD 0 0 0) [.ref h0, .int x] [(h0, ob 8 [.ref xa, .ref xb, .ref xc, .ref xd, .ref xe, .ref xf, .ref xg, .int (iI vc), .int (iI vk), .int (iI vw), .ref xm, .ref xv, .int (iI vg), .ref xw, .int (iI vb), .int (iI vi), .ref xq, .int (iI ve), .int (iI vf), .int (iI vu), .int (iI vl), .ref xr, .ref xh, .ref xo, .ref xp, .int (iI vr), .int (iI va), .int (iI vt), .int (iI vm), .int (iI vd), .int (iI vx)]), (xw, aI g 72000 f)] (po_c_X8_bit g h0 xa xb xc xd xe xf xg xm xv xw xq xr xh xo xp vc vk vw vg vb vi ve vf vu vl vr va vt vm vd vx f x) := by
  refine Ct_of (by decide +kernel) (Nat.le_of_ble_eq_true rfl) ?_
  intro p9 e9 s9 m9 ag9 bl9 mt9 c9 A9 fx hr hnm
  refine v_aload_n fx 0 dX8_bit_0 rfl rfl ?_
  refine v_get fx 0 14 inX8 k1010 dX8_bit_1 rfl rfl (by decide) rfl rfl rfl ?_
  refine v_bipush fx dX8_bit_4 (by decide +kernel) rfl ?_
  refine v_idiv fx (iI (vb / 8)) dX8_bit_6 (by decide) (iI_div (by omega) 8 (by decide) (by decide)) rfl ?_
  refine v_istore_n fx [(2, .int (iI (vb / 8))), (0, .ref h0), (1, .int x)] dX8_bit_7 (by decide) rfl rfl ?_
  refine v_aload_n fx 1 dX8_bit_8 rfl rfl ?_
  refine v_get fx 0 20 inX8 k1016 dX8_bit_9 rfl rfl (by decide) rfl rfl rfl ?_
  refine v_if_eq fx 25 dX8_bit_12 (by decide) rfl (by omega) (fun h_1 => ?_) (fun h_1 => ?_)
  ·
    refine v_bipush fx dX8_bit_25 (by decide +kernel) rfl ?_
    refine v_aload_n fx 1 dX8_bit_27 rfl rfl ?_
    refine v_get fx 0 14 inX8 k1010 dX8_bit_28 rfl rfl (by decide) rfl rfl rfl ?_
    refine v_bipush fx dX8_bit_31 (by decide +kernel) rfl ?_
    refine v_irem fx (iI (vb % 8)) dX8_bit_33 (by decide) (iI_rem (by omega) 8 (by decide) (by decide)) rfl ?_
    refine v_isub fx (7 - (vb % 8)) dX8_bit_34 (by rfl) rfl ?_
    refine v_istore_n fx [(3, .int (iI (7 - (vb % 8)))), (2, .int (iI (vb / 8))), (0, .ref h0), (1, .int x)] dX8_bit_35 (by decide) rfl rfl ?_
    refine v_aload_n fx 2 dX8_bit_36 rfl rfl ?_
    refine v_get fx 0 13 inX8 k1009 dX8_bit_37 rfl rfl (by decide) rfl rfl rfl ?_
    refine v_iload_n fx 1 dX8_bit_40 rfl rfl ?_
    refine v_aload_n fx 2 dX8_bit_41 rfl rfl ?_
    refine v_get fx 0 14 inX8 k1010 dX8_bit_42 rfl rfl (by decide) rfl rfl rfl ?_
    refine v_bipush fx dX8_bit_45 (by decide +kernel) rfl ?_
    refine v_irem fx (iI (vb % 8)) dX8_bit_47 (by decide) (iI_rem (by omega) 8 (by decide) (by decide)) rfl ?_
    refine v_if_ne fx 57 dX8_bit_48 (by decide) rfl (by omega) (fun h_2 => ?_) (fun h_2 => ?_)
    ·
      refine v_aload_n fx 2 dX8_bit_57 rfl rfl ?_
      refine v_get fx 0 13 inX8 k1009 dX8_bit_58 rfl rfl (by decide) rfl rfl rfl ?_
      refine v_iload_n fx 1 dX8_bit_61 rfl rfl ?_
      refine v_iald fx 1 dX8_bit_62 rfl (by omega) (by omega) rfl ?_
      refine v_iload_n fx 3 dX8_bit_63 rfl rfl ?_
      refine v_iload_n fx 0 dX8_bit_64 rfl rfl ?_
      obtain ⟨t_3, et_3⟩ : ∃ x9 : Int32, x <<< ((iI (7 - (vb % 8))) &&& 31) = x9 := ⟨_, rfl⟩
      refine v_ishl fx t_3 dX8_bit_65 et_3 rfl ?_
      refine v_iaddR fx ((f (vb / 8).toNat) + t_3) dX8_bit_66 rfl rfl ?_
      obtain ⟨f_4, ef_4⟩ : ∃ f9 : Nat → Int32, upd f (vb / 8).toNat ((f (vb / 8).toNat) + t_3) = f9 := ⟨_, rfl⟩
      refine v_iast fx 1 f_4 [(h0, ob 8 [.ref xa, .ref xb, .ref xc, .ref xd, .ref xe, .ref xf, .ref xg, .int (iI vc), .int (iI vk), .int (iI vw), .ref xm, .ref xv, .int (iI vg), .ref xw, .int (iI vb), .int (iI vi), .ref xq, .int (iI ve), .int (iI vf), .int (iI vu), .int (iI vl), .ref xr, .ref xh, .ref xo, .ref xp, .int (iI vr), .int (iI va), .int (iI vt), .int (iI vm), .int (iI vd), .int (iI vx)]), (xw, aI g 72000 f_4)] dX8_bit_67 rfl (by omega) (by omega) ef_4 rfl rfl ?_
      refine v_aload_n fx 2 dX8_bit_68 rfl rfl ?_
      refine v_dup fx dX8_bit_69 rfl rfl ?_
      refine v_get fx 0 14 inX8 k1010 dX8_bit_70 rfl rfl (by decide) rfl rfl rfl ?_
      refine v_iconst fx dX8_bit_73 rfl ?_
      refine v_iadd fx (vb + 1) dX8_bit_74 (by rfl) rfl ?_
      refine v_put fx 0 14 [(h0, ob 8 [.ref xa, .ref xb, .ref xc, .ref xd, .ref xe, .ref xf, .ref xg, .int (iI vc), .int (iI vk), .int (iI vw), .ref xm, .ref xv, .int (iI vg), .ref xw, .int (iI (vb + 1)), .int (iI vi), .ref xq, .int (iI ve), .int (iI vf), .int (iI vu), .int (iI vl), .ref xr, .ref xh, .ref xo, .ref xp, .int (iI vr), .int (iI va), .int (iI vt), .int (iI vm), .int (iI vd), .int (iI vx)]), (xw, aI g 72000 f_4)] inX8 tyX8_ok nmX8 k1010 dX8_bit_75 rfl rfl (by decide) rfl rfl rfl rfl (nl rfl) rfl rfl ?_
      exact v_vret fx [(h0, ob 8 [.ref xa, .ref xb, .ref xc, .ref xd, .ref xe, .ref xf, .ref xg, .int (iI vc), .int (iI vk), .int (iI vw), .ref xm, .ref xv, .int (iI vg), .ref xw, .int (iI (vb + 1)), .int (iI vi), .ref xq, .int (iI ve), .int (iI vf), .int (iI vu), .int (iI vl), .ref xr, .ref xh, .ref xo, .ref xp, .int (iI vr), .int (iI va), .int (iI vt), .int (iI vm), .int (iI vd), .int (iI vx)]), (xw, aI g 72000 f_4)] [0, 1] hr dX8_bit_78 rfl rfl (nl rfl) (nl rfl) ⟨f_4, rfl, rfl⟩
    ·
      refine v_iload_n fx 3 dX8_bit_51 rfl rfl ?_
      refine v_iload_n fx 0 dX8_bit_52 rfl rfl ?_
      obtain ⟨t_5, et_5⟩ : ∃ x9 : Int32, x <<< ((iI (7 - (vb % 8))) &&& 31) = x9 := ⟨_, rfl⟩
      refine v_ishl fx t_5 dX8_bit_53 et_5 rfl ?_
      refine v_goto fx 67 dX8_bit_54 (by decide) ?_
      obtain ⟨f_6, ef_6⟩ : ∃ f9 : Nat → Int32, upd f (vb / 8).toNat t_5 = f9 := ⟨_, rfl⟩
      refine v_iast fx 1 f_6 [(h0, ob 8 [.ref xa, .ref xb, .ref xc, .ref xd, .ref xe, .ref xf, .ref xg, .int (iI vc), .int (iI vk), .int (iI vw), .ref xm, .ref xv, .int (iI vg), .ref xw, .int (iI vb), .int (iI vi), .ref xq, .int (iI ve), .int (iI vf), .int (iI vu), .int (iI vl), .ref xr, .ref xh, .ref xo, .ref xp, .int (iI vr), .int (iI va), .int (iI vt), .int (iI vm), .int (iI vd), .int (iI vx)]), (xw, aI g 72000 f_6)] dX8_bit_67 rfl (by omega) (by omega) ef_6 rfl rfl ?_
      refine v_aload_n fx 2 dX8_bit_68 rfl rfl ?_
      refine v_dup fx dX8_bit_69 rfl rfl ?_
      refine v_get fx 0 14 inX8 k1010 dX8_bit_70 rfl rfl (by decide) rfl rfl rfl ?_
      refine v_iconst fx dX8_bit_73 rfl ?_
      refine v_iadd fx (vb + 1) dX8_bit_74 (by rfl) rfl ?_
      refine v_put fx 0 14 [(h0, ob 8 [.ref xa, .ref xb, .ref xc, .ref xd, .ref xe, .ref xf, .ref xg, .int (iI vc), .int (iI vk), .int (iI vw), .ref xm, .ref xv, .int (iI vg), .ref xw, .int (iI (vb + 1)), .int (iI vi), .ref xq, .int (iI ve), .int (iI vf), .int (iI vu), .int (iI vl), .ref xr, .ref xh, .ref xo, .ref xp, .int (iI vr), .int (iI va), .int (iI vt), .int (iI vm), .int (iI vd), .int (iI vx)]), (xw, aI g 72000 f_6)] inX8 tyX8_ok nmX8 k1010 dX8_bit_75 rfl rfl (by decide) rfl rfl rfl rfl (nl rfl) rfl rfl ?_
      exact v_vret fx [(h0, ob 8 [.ref xa, .ref xb, .ref xc, .ref xd, .ref xe, .ref xf, .ref xg, .int (iI vc), .int (iI vk), .int (iI vw), .ref xm, .ref xv, .int (iI vg), .ref xw, .int (iI (vb + 1)), .int (iI vi), .ref xq, .int (iI ve), .int (iI vf), .int (iI vu), .int (iI vl), .ref xr, .ref xh, .ref xo, .ref xp, .int (iI vr), .int (iI va), .int (iI vt), .int (iI vm), .int (iI vd), .int (iI vx)]), (xw, aI g 72000 f_6)] [0, 1] hr dX8_bit_78 rfl rfl (nl rfl) (nl rfl) ⟨f_6, rfl, rfl⟩
  ·
    refine v_aload_n fx 1 dX8_bit_15 rfl rfl ?_
    refine v_get fx 0 14 inX8 k1010 dX8_bit_16 rfl rfl (by decide) rfl rfl rfl ?_
    refine v_bipush fx dX8_bit_19 (by decide +kernel) rfl ?_
    refine v_irem fx (iI (vb % 8)) dX8_bit_21 (by decide) (iI_rem (by omega) 8 (by decide) (by decide)) rfl ?_
    refine v_goto fx 35 dX8_bit_22 (by decide) ?_
    refine v_istore_n fx [(3, .int (iI (vb % 8))), (2, .int (iI (vb / 8))), (0, .ref h0), (1, .int x)] dX8_bit_35 (by decide) rfl rfl ?_
    refine v_aload_n fx 2 dX8_bit_36 rfl rfl ?_
    refine v_get fx 0 13 inX8 k1009 dX8_bit_37 rfl rfl (by decide) rfl rfl rfl ?_
    refine v_iload_n fx 1 dX8_bit_40 rfl rfl ?_
    refine v_aload_n fx 2 dX8_bit_41 rfl rfl ?_
    refine v_get fx 0 14 inX8 k1010 dX8_bit_42 rfl rfl (by decide) rfl rfl rfl ?_
    refine v_bipush fx dX8_bit_45 (by decide +kernel) rfl ?_
    refine v_irem fx (iI (vb % 8)) dX8_bit_47 (by decide) (iI_rem (by omega) 8 (by decide) (by decide)) rfl ?_
    refine v_if_ne fx 57 dX8_bit_48 (by decide) rfl (by omega) (fun h_7 => ?_) (fun h_7 => ?_)
    ·
      refine v_aload_n fx 2 dX8_bit_57 rfl rfl ?_
      refine v_get fx 0 13 inX8 k1009 dX8_bit_58 rfl rfl (by decide) rfl rfl rfl ?_
      refine v_iload_n fx 1 dX8_bit_61 rfl rfl ?_
      refine v_iald fx 1 dX8_bit_62 rfl (by omega) (by omega) rfl ?_
      refine v_iload_n fx 3 dX8_bit_63 rfl rfl ?_
      refine v_iload_n fx 0 dX8_bit_64 rfl rfl ?_
      obtain ⟨t_8, et_8⟩ : ∃ x9 : Int32, x <<< ((iI (vb % 8)) &&& 31) = x9 := ⟨_, rfl⟩
      refine v_ishl fx t_8 dX8_bit_65 et_8 rfl ?_
      refine v_iaddR fx ((f (vb / 8).toNat) + t_8) dX8_bit_66 rfl rfl ?_
      obtain ⟨f_9, ef_9⟩ : ∃ f9 : Nat → Int32, upd f (vb / 8).toNat ((f (vb / 8).toNat) + t_8) = f9 := ⟨_, rfl⟩
      refine v_iast fx 1 f_9 [(h0, ob 8 [.ref xa, .ref xb, .ref xc, .ref xd, .ref xe, .ref xf, .ref xg, .int (iI vc), .int (iI vk), .int (iI vw), .ref xm, .ref xv, .int (iI vg), .ref xw, .int (iI vb), .int (iI vi), .ref xq, .int (iI ve), .int (iI vf), .int (iI vu), .int (iI vl), .ref xr, .ref xh, .ref xo, .ref xp, .int (iI vr), .int (iI va), .int (iI vt), .int (iI vm), .int (iI vd), .int (iI vx)]), (xw, aI g 72000 f_9)] dX8_bit_67 rfl (by omega) (by omega) ef_9 rfl rfl ?_
      refine v_aload_n fx 2 dX8_bit_68 rfl rfl ?_
      refine v_dup fx dX8_bit_69 rfl rfl ?_
      refine v_get fx 0 14 inX8 k1010 dX8_bit_70 rfl rfl (by decide) rfl rfl rfl ?_
      refine v_iconst fx dX8_bit_73 rfl ?_
      refine v_iadd fx (vb + 1) dX8_bit_74 (by rfl) rfl ?_
      refine v_put fx 0 14 [(h0, ob 8 [.ref xa, .ref xb, .ref xc, .ref xd, .ref xe, .ref xf, .ref xg, .int (iI vc), .int (iI vk), .int (iI vw), .ref xm, .ref xv, .int (iI vg), .ref xw, .int (iI (vb + 1)), .int (iI vi), .ref xq, .int (iI ve), .int (iI vf), .int (iI vu), .int (iI vl), .ref xr, .ref xh, .ref xo, .ref xp, .int (iI vr), .int (iI va), .int (iI vt), .int (iI vm), .int (iI vd), .int (iI vx)]), (xw, aI g 72000 f_9)] inX8 tyX8_ok nmX8 k1010 dX8_bit_75 rfl rfl (by decide) rfl rfl rfl rfl (nl rfl) rfl rfl ?_
      exact v_vret fx [(h0, ob 8 [.ref xa, .ref xb, .ref xc, .ref xd, .ref xe, .ref xf, .ref xg, .int (iI vc), .int (iI vk), .int (iI vw), .ref xm, .ref xv, .int (iI vg), .ref xw, .int (iI (vb + 1)), .int (iI vi), .ref xq, .int (iI ve), .int (iI vf), .int (iI vu), .int (iI vl), .ref xr, .ref xh, .ref xo, .ref xp, .int (iI vr), .int (iI va), .int (iI vt), .int (iI vm), .int (iI vd), .int (iI vx)]), (xw, aI g 72000 f_9)] [0, 1] hr dX8_bit_78 rfl rfl (nl rfl) (nl rfl) ⟨f_9, rfl, rfl⟩
    ·
      refine v_iload_n fx 3 dX8_bit_51 rfl rfl ?_
      refine v_iload_n fx 0 dX8_bit_52 rfl rfl ?_
      obtain ⟨t_10, et_10⟩ : ∃ x9 : Int32, x <<< ((iI (vb % 8)) &&& 31) = x9 := ⟨_, rfl⟩
      refine v_ishl fx t_10 dX8_bit_53 et_10 rfl ?_
      refine v_goto fx 67 dX8_bit_54 (by decide) ?_
      obtain ⟨f_11, ef_11⟩ : ∃ f9 : Nat → Int32, upd f (vb / 8).toNat t_10 = f9 := ⟨_, rfl⟩
      refine v_iast fx 1 f_11 [(h0, ob 8 [.ref xa, .ref xb, .ref xc, .ref xd, .ref xe, .ref xf, .ref xg, .int (iI vc), .int (iI vk), .int (iI vw), .ref xm, .ref xv, .int (iI vg), .ref xw, .int (iI vb), .int (iI vi), .ref xq, .int (iI ve), .int (iI vf), .int (iI vu), .int (iI vl), .ref xr, .ref xh, .ref xo, .ref xp, .int (iI vr), .int (iI va), .int (iI vt), .int (iI vm), .int (iI vd), .int (iI vx)]), (xw, aI g 72000 f_11)] dX8_bit_67 rfl (by omega) (by omega) ef_11 rfl rfl ?_
      refine v_aload_n fx 2 dX8_bit_68 rfl rfl ?_
      refine v_dup fx dX8_bit_69 rfl rfl ?_
      refine v_get fx 0 14 inX8 k1010 dX8_bit_70 rfl rfl (by decide) rfl rfl rfl ?_
      refine v_iconst fx dX8_bit_73 rfl ?_
      refine v_iadd fx (vb + 1) dX8_bit_74 (by rfl) rfl ?_
      refine v_put fx 0 14 [(h0, ob 8 [.ref xa, .ref xb, .ref xc, .ref xd, .ref xe, .ref xf, .ref xg, .int (iI vc), .int (iI vk), .int (iI vw), .ref xm, .ref xv, .int (iI vg), .ref xw, .int (iI (vb + 1)), .int (iI vi), .ref xq, .int (iI ve), .int (iI vf), .int (iI vu), .int (iI vl), .ref xr, .ref xh, .ref xo, .ref xp, .int (iI vr), .int (iI va), .int (iI vt), .int (iI vm), .int (iI vd), .int (iI vx)]), (xw, aI g 72000 f_11)] inX8 tyX8_ok nmX8 k1010 dX8_bit_75 rfl rfl (by decide) rfl rfl rfl rfl (nl rfl) rfl rfl ?_
      exact v_vret fx [(h0, ob 8 [.ref xa, .ref xb, .ref xc, .ref xd, .ref xe, .ref xf, .ref xg, .int (iI vc), .int (iI vk), .int (iI vw), .ref xm, .ref xv, .int (iI vg), .ref xw, .int (iI (vb + 1)), .int (iI vi), .ref xq, .int (iI ve), .int (iI vf), .int (iI vu), .int (iI vl), .ref xr, .ref xh, .ref xo, .ref xp, .int (iI vr), .int (iI va), .int (iI vt), .int (iI vm), .int (iI vd), .int (iI vx)]), (xw, aI g 72000 f_11)] [0, 1] hr dX8_bit_78 rfl rfl (nl rfl) (nl rfl) ⟨f_11, rfl, rfl⟩
theorem dX8_number_0 : decode cX8_number 0 = .ok (.iload_n 2, 1) := by decide +kernel
theorem dX8_number_1 : decode cX8_number 1 = .ok (.iconst 1, 1) := by decide +kernel
theorem dX8_number_2 : decode cX8_number 2 = .ok (.isub, 1) := by decide +kernel
theorem dX8_number_3 : decode cX8_number 3 = .ok (.istore_n 3, 1) := by decide +kernel
theorem dX8_number_4 : decode cX8_number 4 = .ok (.iload_n 3, 1) := by decide +kernel
theorem dX8_number_5 : decode cX8_number 5 = .ok (.ifCond .lt 18, 3) := by decide +kernel
theorem dX8_number_8 : decode cX8_number 8 = .ok (.aload_n 0, 1) := by decide +kernel
theorem dX8_number_9 : decode cX8_number 9 = .ok (.iload_n 1, 1) := by decide +kernel
theorem dX8_number_10 : decode cX8_number 10 = .ok (.iload_n 3, 1) := by decide +kernel
theorem dX8_number_11 : decode cX8_number 11 = .ok (.ishr, 1) := by decide +kernel
theorem dX8_number_12 : decode cX8_number 12 = .ok (.iconst 1, 1) := by decide +kernel
theorem dX8_number_13 : decode cX8_number 13 = .ok (.iand, 1) := by decide +kernel
theorem dX8_number_14 : decode cX8_number 14 = .ok (.invokevirtual 79, 3) := by decide +kernel
theorem dX8_number_17 : decode cX8_number 17 = .ok (.iinc 3 (-1), 3) := by decide +kernel
theorem dX8_number_20 : decode cX8_number 20 = .ok (.goto (-16), 3) := by decide +kernel
theorem dX8_number_23 : decode cX8_number 23 = .ok (.return_, 1) := by decide +kernel
abbrev po_c_X8_number (g : GG) (h0 : Nat) (xa : Nat) (xb : Nat) (xc : Nat) (xd : Nat) (xe : Nat) (xf : Nat) (xg : Nat) (xm : Nat) (xv : Nat) (xw : Nat) (xq : Nat) (xr : Nat) (xh : Nat) (xo : Nat) (xp : Nat) (vc : Int) (vk : Int) (vw : Int) (vg : Int) (vb : Int) (vi : Int) (ve : Int) (vf : Int) (vu : Int) (vl : Int) (vr : Int) (va : Int) (vt : Int) (vm : Int) (vd : Int) (vx : Int) (f : Nat → Int32) (x : Int32) (n : Int) : Option Value → va_W → Prop := fun v8 w8 => ∃ b2 : Int, ∃ f2 : Nat → Int32, v8 = none ∧ w8 = [(h0, ob 8 [.ref xa, .ref xb, .ref xc, .ref xd, .ref xe, .ref xf, .ref xg, .int (iI vc), .int (iI vk), .int (iI vw), .ref xm, .ref xv, .int (iI vg), .ref xw, .int (iI b2), .int (iI vi), .ref xq, .int (iI ve), .int (iI vf), .int (iI vu), .int (iI vl), .ref xr, .ref xh, .ref xo, .ref xp, .int (iI vr), .int (iI va), .int (iI vt), .int (iI vm), .int (iI vd), .int (iI vx)]), (xw, aI g 72000 f2)] ∧ (b2 = vb + n)
set_option maxHeartbeats 4000000 in
set_option maxRecDepth 100000 in
theorem c_X8_number (l : Launch) (g : GG) (h0 : Nat) (xa : Nat) (xb : Nat) (xc : Nat) (xd : Nat) (xe : Nat) (xf : Nat) (xg : Nat) (xm : Nat) (xv : Nat) (xw : Nat) (xq : Nat) (xr : Nat) (xh : Nat) (xo : Nat) (xp : Nat) (vc : Int) (vk : Int) (vw : Int) (vg : Int) (vb : Int) (vi : Int) (ve : Int) (vf : Int) (vu : Int) (vl : Int) (vr : Int) (va : Int) (vt : Int) (vm : Int) (vd : Int) (vx : Int) (f : Nat → Int32) (x : Int32) (n : Int) (hp0 : 0 ≤ vb ∧ 0 ≤ n ∧ n ≤ 32 ∧ vb + n ≤ 576000) (hp1 : 0 ≤ vl ∧ vl ≤ 1) : Ct l g yX8_number (wM yX8_number cX8_number 4 none) (rmD 1 0 0) [.ref h0, .int x, .int (iI n)] [(h0, ob 8 [.ref xa, .ref xb, .ref xc, .ref xd, .ref xe, .ref xf, .ref xg, .int (iI vc), .int (iI vk), .int (iI vw), .ref xm, .ref xv, .int (iI vg), .ref xw, .int (iI vb), .int (iI vi), .ref xq, .int (iI ve), .int (iI vf), .int (iI vu), .int (iI vl), .ref xr, .ref xh, .ref xo, .ref xp, .int (iI vr), .int (iI va), .int (iI vt), .int (iI vm), .int (iI vd), .int (iI vx)]), (xw, aI g 72000 f)] (po_c_X8_number g h0 xa xb xc xd xe xf xg xm xv xw xq xr xh xo xp vc vk vw vg vb vi ve vf vu vl vr va vt vm vd vx f x n) := by
  refine Ct_of (by decide +kernel) (Nat.le_of_ble_eq_true rfl) ?_
  intro p9 e9 s9 m9 ag9 bl9 mt9 c9 A9 fx hr hnm
  refine v_iload_n fx 2 dX8_number_0 rfl rfl ?_
  refine v_iconst fx dX8_number_1 rfl ?_
  refine v_isub fx (n - 1) dX8_number_2 (by rfl) rfl ?_
  refine v_istore_n fx [(3, .int (iI (n - 1))), (0, .ref h0), (1, .int x), (2, .int (iI n))] dX8_number_3 (by decide) rfl rfl ?_
  have L4 : ∀ (N : Nat) (i : Int) (b1 : Int) (f1 : Nat → Int32), (-1 ≤ i ∧ i < n) → (b1 + i + 1 = vb + n ∧ vb ≤ b1) → ((i + 1).toNat) < N → V p9 l e9 (rmD 1 0 0) s9 m9 ag9 bl9 mt9 c9 4 g A9 (MQ bl9 (cQ g (po_c_X8_number g h0 xa xb xc xd xe xf xg xm xv xw xq xr xh xo xp vc vk vw vg vb vi ve vf vu vl vr va vt vm vd vx f x n) A9) ag9 s9 0 0 A9) [(h0, ob 8 [.ref xa, .ref xb, .ref xc, .ref xd, .ref xe, .ref xf, .ref xg, .int (iI vc), .int (iI vk), .int (iI vw), .ref xm, .ref xv, .int (iI vg), .ref xw, .int (iI b1), .int (iI vi), .ref xq, .int (iI ve), .int (iI vf), .int (iI vu), .int (iI vl), .ref xr, .ref xh, .ref xo, .ref xp, .int (iI vr), .int (iI va), .int (iI vt), .int (iI vm), .int (iI vd), .int (iI vx)]), (xw, aI g 72000 f1)] 0 0 [(0, .ref h0), (1, .int x), (2, .int (iI n)), (3, .int (iI i))] 4 [] := by
    intro N
    induction N with
    | zero => intro i b1 f1 hi4_0 hi4_1 hN; exact absurd hN (Nat.not_lt_zero _)
    | succ N ihL4 =>
      intro i b1 f1 hi4_0 hi4_1 hN4
      refine v_iload_n fx 3 dX8_number_4 rfl rfl ?_
      refine v_if_lt fx 23 dX8_number_5 (by decide) rfl (by omega) (fun h_1 => ?_) (fun h_1 => ?_)
      ·
        exact v_vret fx [(h0, ob 8 [.ref xa, .ref xb, .ref xc, .ref xd, .ref xe, .ref xf, .ref xg, .int (iI vc), .int (iI vk), .int (iI vw), .ref xm, .ref xv, .int (iI vg), .ref xw, .int (iI b1), .int (iI vi), .ref xq, .int (iI ve), .int (iI vf), .int (iI vu), .int (iI vl), .ref xr, .ref xh, .ref xo, .ref xp, .int (iI vr), .int (iI va), .int (iI vt), .int (iI vm), .int (iI vd), .int (iI vx)]), (xw, aI g 72000 f1)] [0, 1] hr dX8_number_23 rfl rfl (nl rfl) (nl rfl) ⟨b1, f1, rfl, rfl, (by first | omega | rfl | assumption)⟩
      ·
        refine v_aload_n fx 0 dX8_number_8 rfl rfl ?_
        refine v_iload_n fx 1 dX8_number_9 rfl rfl ?_
        refine v_iload_n fx 3 dX8_number_10 rfl rfl ?_
        obtain ⟨t_2, et_2⟩ : ∃ x9 : Int32, x >>> ((iI i) &&& 31) = x9 := ⟨_, rfl⟩
        refine v_ishr fx t_2 dX8_number_11 et_2 rfl ?_
        refine v_iconst fx dX8_number_12 rfl ?_
        obtain ⟨t_3, et_3⟩ : ∃ x9 : Int32, t_2 &&& (iI 1) = x9 := ⟨_, rfl⟩
        refine v_iand fx t_3 dX8_number_13 et_3 rfl ?_
        refine v_callV (As := [.int t_3]) (rest := []) fx [0, 1] [] [(h0, ob 8 [.ref xa, .ref xb, .ref xc, .ref xd, .ref xe, .ref xf, .ref xg, .int (iI vc), .int (iI vk), .int (iI vw), .ref xm, .ref xv, .int (iI vg), .ref xw, .int (iI b1), .int (iI vi), .ref xq, .int (iI ve), .int (iI vf), .int (iI vu), .int (iI vl), .ref xr, .ref xh, .ref xo, .ref xp, .int (iI vr), .int (iI va), .int (iI vt), .int (iI vm), .int (iI vd), .int (iI vx)]), (xw, aI g 72000 f1)] [] 1 0 (c_X8_bit l g h0 xa xb xc xd xe xf xg xm xv xw xq xr xh xo xp vc vk vw vg b1 vi ve vf vu vl vr va vt vm vd vx f1 t_3 (by first | omega | decide | assumption) (by first | omega | decide | assumption)) dX8_number_14 k1114 k1116 k23 k57 k1117 ykX8_bit rfl rfl rfl rfl rfl rfl rfl rfl (nl rfl) ⟨nl rfl, nl rfl⟩ ⟨(nl rfl), (nl rfl)⟩ rfl (fun v9 w9 hu => ?_)
        obtain ⟨f2_4, rfl, rfl⟩ := hu
        refine v_is (wn := [(h0, ob 8 [.ref xa, .ref xb, .ref xc, .ref xd, .ref xe, .ref xf, .ref xg, .int (iI vc), .int (iI vk), .int (iI vw), .ref xm, .ref xv, .int (iI vg), .ref xw, .int (iI (b1 + 1)), .int (iI vi), .ref xq, .int (iI ve), .int (iI vf), .int (iI vu), .int (iI vl), .ref xr, .ref xh, .ref xo, .ref xp, .int (iI vr), .int (iI va), .int (iI vt), .int (iI vm), .int (iI vd), .int (iI vx)]), (xw, aI g 72000 f2_4)]) (cn := 0) (sn := 0) (sn2 := []) rfl rfl rfl rfl ?_
        refine v_iinc fx 3 (i - 1) [(3, .int (iI (i - 1))), (0, .ref h0), (1, .int x), (2, .int (iI n))] dX8_number_17 rfl (by omega) (by decide) rfl rfl ?_
        refine v_goto fx 4 dX8_number_20 (by decide) ?_
        refine v_lv [1, 2, 3, 0] [(0, .ref h0), (1, .int x), (2, .int (iI n)), (3, .int (iI (i - 1)))] rfl ?_
        exact ihL4 (i - 1) (b1 + 1) f2_4 (by omega) (by omega) (by omega)
  refine v_lv [1, 2, 3, 0] [(0, .ref h0), (1, .int x), (2, .int (iI n)), (3, .int (iI (n - 1)))] rfl ?_
  exact L4 _ (n - 1) vb f (by omega) (by omega) (Nat.lt_succ_self _)
theorem dX8_mark_0 : decode cX8_mark 0 = .ok (.aload_n 0, 1) := by decide +kernel
theorem dX8_mark_1 : decode cX8_mark 1 = .ok (.iconst 1, 1) := by decide +kernel
theorem dX8_mark_2 : decode cX8_mark 2 = .ok (.bipush 12, 2) := by decide +kernel
theorem dX8_mark_4 : decode cX8_mark 4 = .ok (.invokevirtual 83, 3) := by decide +kernel
theorem dX8_mark_7 : decode cX8_mark 7 = .ok (.return_, 1) := by decide +kernel
abbrev po_c_X8_mark (g : GG) (h0 : Nat) (xa : Nat) (xb : Nat) (xc : Nat) (xd : Nat) (xe : Nat) (xf : Nat) (xg : Nat) (xm : Nat) (xv : Nat) (xw : Nat) (xq : Nat) (xr : Nat) (xh : Nat) (xo : Nat) (xp : Nat) (vc : Int) (vk : Int) (vw : Int) (vg : Int) (vb : Int) (vi : Int) (ve : Int) (vf : Int) (vu : Int) (vl : Int) (vr : Int) (va : Int) (vt : Int) (vm : Int) (vd : Int) (vx : Int) (f : Nat → Int32) : Option Value → va_W → Prop := fun v8 w8 => ∃ b2 : Int, ∃ f2 : Nat → Int32, v8 = none ∧ w8 = [(h0, ob 8 [.ref xa, .ref xb, .ref xc, .ref xd, .ref xe, .ref xf, .ref xg, .int (iI vc), .int (iI vk), .int (iI vw), .ref xm, .ref xv, .int (iI vg), .ref xw, .int (iI b2), .int (iI vi), .ref xq, .int (iI ve), .int (iI vf), .int (iI vu), .int (iI vl), .ref xr, .ref xh, .ref xo, .ref xp, .int (iI vr), .int (iI va), .int (iI vt), .int (iI vm), .int (iI vd), .int (iI vx)]), (xw, aI g 72000 f2)] ∧ (b2 = vb + 12)
set_option maxHeartbeats 4000000 in
set_option maxRecDepth 100000 in
theorem c_X8_mark (l : Launch) (g : GG) (h0 : Nat) (xa : Nat) (xb : Nat) (xc : Nat) (xd : Nat) (xe : Nat) (xf : Nat) (xg : Nat) (xm : Nat) (xv : Nat) (xw : Nat) (xq : Nat) (xr : Nat) (xh : Nat) (xo : Nat) (xp : Nat) (vc : Int) (vk : Int) (vw : Int) (vg : Int) (vb : Int) (vi : Int) (ve : Int) (vf : Int) (vu : Int) (vl : Int) (vr : Int) (va : Int) (vt : Int) (vm : Int) (vd : Int) (vx : Int) (f : Nat → Int32) (hp0 : 0 ≤ vb ∧ vb + 12 ≤ 576000) (hp1 : 0 ≤ vl ∧ vl ≤ 1) : Ct l g yX8_mark (wM yX8_mark cX8_mark 1 none) (rmD 2 0 0) [.ref h0] [(h0, ob 8 [.ref xa, .ref xb, .ref xc, .ref xd, .ref xe, .ref xf, .ref xg, .int (iI vc), .int (iI vk), .int (iI vw), .ref xm, .ref xv, .int (iI vg), .ref xw, .int (iI vb), .int (iI vi), .ref xq, .int (iI ve), .int (iI vf), .int (iI vu), .int (iI vl), .ref xr, .ref xh, .ref xo, .ref xp, .int (iI vr), .int (iI va), .int (iI vt), .int (iI vm), .int (iI vd), .int (iI vx)]), (xw, aI g 72000 f)] (po_c_X8_mark g h0 xa xb xc xd xe xf xg xm xv xw xq xr xh xo xp vc vk vw vg vb vi ve vf vu vl vr va vt vm vd vx f) := by
  refine Ct_of (by decide +kernel) (Nat.le_of_ble_eq_true rfl) ?_
  intro p9 e9 s9 m9 ag9 bl9 mt9 c9 A9 fx hr hnm
  refine v_aload_n fx 0 dX8_mark_0 rfl rfl ?_
  refine v_iconst fx dX8_mark_1 rfl ?_
  refine v_bipush fx dX8_mark_2 (by decide +kernel) rfl ?_
  refine v_callV (As := [.int (iI 1), .int (iI 12)]) (rest := []) fx [0, 1] [] [(h0, ob 8 [.ref xa, .ref xb, .ref xc, .ref xd, .ref xe, .ref xf, .ref xg, .int (iI vc), .int (iI vk), .int (iI vw), .ref xm, .ref xv, .int (iI vg), .ref xw, .int (iI vb), .int (iI vi), .ref xq, .int (iI ve), .int (iI vf), .int (iI vu), .int (iI vl), .ref xr, .ref xh, .ref xo, .ref xp, .int (iI vr), .int (iI va), .int (iI vt), .int (iI vm), .int (iI vd), .int (iI vx)]), (xw, aI g 72000 f)] [] 2 0 (c_X8_number l g h0 xa xb xc xd xe xf xg xm xv xw xq xr xh xo xp vc vk vw vg vb vi ve vf vu vl vr va vt vm vd vx f (iI 1) 12 (by first | omega | decide | assumption) (by first | omega | decide | assumption)) dX8_mark_4 k1110 k1112 k22 k57 k1113 ykX8_number rfl rfl rfl rfl rfl rfl rfl rfl (nl rfl) ⟨nl rfl, nl rfl⟩ ⟨(nl rfl), (nl rfl)⟩ rfl (fun v9 w9 hu => ?_)
  obtain ⟨b2_1, f2_2, rfl, rfl, u_3⟩ := hu
  refine v_is (wn := [(h0, ob 8 [.ref xa, .ref xb, .ref xc, .ref xd, .ref xe, .ref xf, .ref xg, .int (iI vc), .int (iI vk), .int (iI vw), .ref xm, .ref xv, .int (iI vg), .ref xw, .int (iI b2_1), .int (iI vi), .ref xq, .int (iI ve), .int (iI vf), .int (iI vu), .int (iI vl), .ref xr, .ref xh, .ref xo, .ref xp, .int (iI vr), .int (iI va), .int (iI vt), .int (iI vm), .int (iI vd), .int (iI vx)]), (xw, aI g 72000 f2_2)]) (cn := 0) (sn := 0) (sn2 := []) rfl rfl rfl rfl ?_
  exact v_vret fx [(h0, ob 8 [.ref xa, .ref xb, .ref xc, .ref xd, .ref xe, .ref xf, .ref xg, .int (iI vc), .int (iI vk), .int (iI vw), .ref xm, .ref xv, .int (iI vg), .ref xw, .int (iI b2_1), .int (iI vi), .ref xq, .int (iI ve), .int (iI vf), .int (iI vu), .int (iI vl), .ref xr, .ref xh, .ref xo, .ref xp, .int (iI vr), .int (iI va), .int (iI vt), .int (iI vm), .int (iI vd), .int (iI vx)]), (xw, aI g 72000 f2_2)] [0, 1] hr dX8_mark_7 rfl rfl (nl rfl) (nl rfl) ⟨b2_1, f2_2, rfl, rfl, (by first | omega | rfl | assumption)⟩
theorem dX8_encode_0 : decode cX8_encode 0 = .ok (.aload_n 0, 1) := by decide +kernel
theorem dX8_encode_1 : decode cX8_encode 1 = .ok (.iconst 0, 1) := by decide +kernel
theorem dX8_encode_2 : decode cX8_encode 2 = .ok (.putfield 66, 3) := by decide +kernel
theorem dX8_encode_5 : decode cX8_encode 5 = .ok (.aload_n 0, 1) := by decide +kernel
theorem dX8_encode_6 : decode cX8_encode 6 = .ok (.iconst 0, 1) := by decide +kernel
theorem dX8_encode_7 : decode cX8_encode 7 = .ok (.putfield 72, 3) := by decide +kernel
theorem dX8_encode_10 : decode cX8_encode 10 = .ok (.aload_n 0, 1) := by decide +kernel
theorem dX8_encode_11 : decode cX8_encode 11 = .ok (.iconst 1, 1) := by decide +kernel
theorem dX8_encode_12 : decode cX8_encode 12 = .ok (.putfield 108, 3) := by decide +kernel
theorem dX8_encode_15 : decode cX8_encode 15 = .ok (.iconst 0, 1) := by decide +kernel
theorem dX8_encode_16 : decode cX8_encode 16 = .ok (.istore_n 1, 1) := by decide +kernel
theorem dX8_encode_17 : decode cX8_encode 17 = .ok (.iload_n 1, 1) := by decide +kernel
theorem dX8_encode_18 : decode cX8_encode 18 = .ok (.aload_n 0, 1) := by decide +kernel
theorem dX8_encode_19 : decode cX8_encode 19 = .ok (.getfield 69, 3) := by decide +kernel
theorem dX8_encode_22 : decode cX8_encode 22 = .ok (.if_icmp .ge 143, 3) := by decide +kernel
theorem dX8_encode_165 : decode cX8_encode 165 = .ok (.iconst 0, 1) := by decide +kernel
theorem dX8_encode_166 : decode cX8_encode 166 = .ok (.istore_n 1, 1) := by decide +kernel
theorem dX8_encode_167 : decode cX8_encode 167 = .ok (.iload_n 1, 1) := by decide +kernel
theorem dX8_encode_168 : decode cX8_encode 168 = .ok (.aload_n 0, 1) := by decide +kernel
theorem dX8_encode_169 : decode cX8_encode 169 = .ok (.getfield 59, 3) := by decide +kernel
theorem dX8_encode_172 : decode cX8_encode 172 = .ok (.iconst 2, 1) := by decide +kernel
theorem dX8_encode_173 : decode cX8_encode 173 = .ok (.if_icmp .ge 8, 3) := by decide +kernel
theorem dX8_encode_176 : decode cX8_encode 176 = .ok (.bipush 6, 2) := by decide +kernel
theorem dX8_encode_178 : decode cX8_encode 178 = .ok (.goto 4, 3) := by decide +kernel
theorem dX8_encode_181 : decode cX8_encode 181 = .ok (.iconst 2, 1) := by decide +kernel
theorem dX8_encode_182 : decode cX8_encode 182 = .ok (.if_icmp .ge 26, 3) := by decide +kernel
theorem dX8_encode_185 : decode cX8_encode 185 = .ok (.aload_n 0, 1) := by decide +kernel
theorem dX8_encode_186 : decode cX8_encode 186 = .ok (.invokevirtual 111, 3) := by decide +kernel
theorem dX8_encode_189 : decode cX8_encode 189 = .ok (.aload_n 0, 1) := by decide +kernel
theorem dX8_encode_190 : decode cX8_encode 190 = .ok (.getfield 59, 3) := by decide +kernel
theorem dX8_encode_193 : decode cX8_encode 193 = .ok (.iconst 1, 1) := by decide +kernel
theorem dX8_encode_194 : decode cX8_encode 194 = .ok (.if_icmp .ne 8, 3) := by decide +kernel
theorem dX8_encode_197 : decode cX8_encode 197 = .ok (.aload_n 0, 1) := by decide +kernel
theorem dX8_encode_198 : decode cX8_encode 198 = .ok (.iconst 1, 1) := by decide +kernel
theorem dX8_encode_199 : decode cX8_encode 199 = .ok (.invokevirtual 79, 3) := by decide +kernel
theorem dX8_encode_202 : decode cX8_encode 202 = .ok (.iinc 1 1, 3) := by decide +kernel
theorem dX8_encode_205 : decode cX8_encode 205 = .ok (.goto (-38), 3) := by decide +kernel
theorem dX8_encode_208 : decode cX8_encode 208 = .ok (.aload_n 0, 1) := by decide +kernel
theorem dX8_encode_209 : decode cX8_encode 209 = .ok (.getfield 72, 3) := by decide +kernel
theorem dX8_encode_212 : decode cX8_encode 212 = .ok (.bipush 7, 2) := by decide +kernel
theorem dX8_encode_214 : decode cX8_encode 214 = .ok (.iadd, 1) := by decide +kernel
theorem dX8_encode_215 : decode cX8_encode 215 = .ok (.bipush 8, 2) := by decide +kernel
theorem dX8_encode_217 : decode cX8_encode 217 = .ok (.idiv, 1) := by decide +kernel
theorem dX8_encode_218 : decode cX8_encode 218 = .ok (.ireturn, 1) := by decide +kernel
abbrev po_c_X8_encode_0 (g : GG) (h0 : Nat) (xa : Nat) (xb : Nat) (xc : Nat) (xd : Nat) (xe : Nat) (xf : Nat) (xg : Nat) (xm : Nat) (xv : Nat) (xw : Nat) (xq : Nat) (xr : Nat) (xh : Nat) (xo : Nat) (xp : Nat) (vc : Int) (vk : Int) (vw : Int) (vb : Int) (vi : Int) (ve : Int) (vf : Int) (vu : Int) (vl : Int) (vr : Int) (va : Int) (vt : Int) (vm : Int) (vd : Int) (vx : Int) (f : Nat → Int32) : Option Value → va_W → Prop := fun v8 w8 => ∃ r : Int, ∃ b2 : Int, ∃ f2 : Nat → Int32, v8 = some (.int (iI r)) ∧ w8 = [(h0, ob 8 [.ref xa, .ref xb, .ref xc, .ref xd, .ref xe, .ref xf, .ref xg, .int (iI 0), .int (iI vk), .int (iI vw), .ref xm, .ref xv, .int (iI 0), .ref xw, .int (iI b2), .int (iI 1), .ref xq, .int (iI ve), .int (iI vf), .int (iI vu), .int (iI vl), .ref xr, .ref xh, .ref xo, .ref xp, .int (iI vr), .int (iI va), .int (iI vt), .int (iI vm), .int (iI vd), .int (iI vx)]), (xw, aI g 72000 f2)] ∧ ((vk = 0 ∧ r = 9) ∨ (vk = 1 ∧ r = 10) ∨ (vk = 2 ∧ r = 3))
set_option maxHeartbeats 4000000 in
set_option maxRecDepth 100000 in
theorem c_X8_encode_0 (l : Launch) (g : GG) (h0 : Nat) (xa : Nat) (xb : Nat) (xc : Nat) (xd : Nat) (xe : Nat) (xf : Nat) (xg : Nat) (xm : Nat) (xv : Nat) (xw : Nat) (xq : Nat) (xr : Nat) (xh : Nat) (xo : Nat) (xp : Nat) (vc : Int) (vk : Int) (vw : Int) (vb : Int) (vi : Int) (ve : Int) (vf : Int) (vu : Int) (vl : Int) (vr : Int) (va : Int) (vt : Int) (vm : Int) (vd : Int) (vx : Int) (f : Nat → Int32) (hp0 : 0 ≤ vk ∧ vk ≤ 2) (hp1 : 0 ≤ vl ∧ vl ≤ 1) : Ct l g yX8_encode (wM yX8_encode cX8_encode 4 (some .int)) (rmD 3 0 0) [.ref h0] [(h0, ob 8 [.ref xa, .ref xb, .ref xc, .ref xd, .ref xe, .ref xf, .ref xg, .int (iI vc), .int (iI vk), .int (iI vw), .ref xm, .ref xv, .int (iI 0), .ref xw, .int (iI vb), .int (iI vi), .ref xq, .int (iI ve), .int (iI vf), .int (iI vu), .int (iI vl), .ref xr, .ref xh, .ref xo, .ref xp, .int (iI vr), .int (iI va), .int (iI vt), .int (iI vm), .int (iI vd), .int (iI vx)]), (xw, aI g 72000 f)] (po_c_X8_encode_0 g h0 xa xb xc xd xe xf xg xm xv xw xq xr xh xo xp vc vk vw vb vi ve vf vu vl vr va vt vm vd vx f) := by
  refine Ct_of (by decide +kernel) (Nat.le_of_ble_eq_true rfl) ?_
  intro p9 e9 s9 m9 ag9 bl9 mt9 c9 A9 fx hr hnm
  refine v_aload_n fx 0 dX8_encode_0 rfl rfl ?_
  refine v_iconst fx dX8_encode_1 rfl ?_
  refine v_put fx 0 7 [(h0, ob 8 [.ref xa, .ref xb, .ref xc, .ref xd, .ref xe, .ref xf, .ref xg, .int (iI 0), .int (iI vk), .int (iI vw), .ref xm, .ref xv, .int (iI 0), .ref xw, .int (iI vb), .int (iI vi), .ref xq, .int (iI ve), .int (iI vf), .int (iI vu), .int (iI vl), .ref xr, .ref xh, .ref xo, .ref xp, .int (iI vr), .int (iI va), .int (iI vt), .int (iI vm), .int (iI vd), .int (iI vx)]), (xw, aI g 72000 f)] inX8 tyX8_ok nmX8 k1003 dX8_encode_2 rfl rfl (by decide) rfl rfl rfl rfl (nl rfl) rfl rfl ?_
  refine v_aload_n fx 0 dX8_encode_5 rfl rfl ?_
  refine v_iconst fx dX8_encode_6 rfl ?_
  refine v_put fx 0 14 [(h0, ob 8 [.ref xa, .ref xb, .ref xc, .ref xd, .ref xe, .ref xf, .ref xg, .int (iI 0), .int (iI vk), .int (iI vw), .ref xm, .ref xv, .int (iI 0), .ref xw, .int (iI 0), .int (iI vi), .ref xq, .int (iI ve), .int (iI vf), .int (iI vu), .int (iI vl), .ref xr, .ref xh, .ref xo, .ref xp, .int (iI vr), .int (iI va), .int (iI vt), .int (iI vm), .int (iI vd), .int (iI vx)]), (xw, aI g 72000 f)] inX8 tyX8_ok nmX8 k1010 dX8_encode_7 rfl rfl (by decide) rfl rfl rfl rfl (nl rfl) rfl rfl ?_
  refine v_aload_n fx 0 dX8_encode_10 rfl rfl ?_
  refine v_iconst fx dX8_encode_11 rfl ?_
  refine v_put fx 0 15 [(h0, ob 8 [.ref xa, .ref xb, .ref xc, .ref xd, .ref xe, .ref xf, .ref xg, .int (iI 0), .int (iI vk), .int (iI vw), .ref xm, .ref xv, .int (iI 0), .ref xw, .int (iI 0), .int (iI 1), .ref xq, .int (iI ve), .int (iI vf), .int (iI vu), .int (iI vl), .ref xr, .ref xh, .ref xo, .ref xp, .int (iI vr), .int (iI va), .int (iI vt), .int (iI vm), .int (iI vd), .int (iI vx)]), (xw, aI g 72000 f)] inX8 tyX8_ok nmX8 k1011 dX8_encode_12 rfl rfl (by decide) rfl rfl rfl rfl (nl rfl) rfl rfl ?_
  refine v_iconst fx dX8_encode_15 rfl ?_
  refine v_istore_n fx [(1, .int (iI 0)), (0, .ref h0)] dX8_encode_16 (by decide) rfl rfl ?_
  refine v_iload_n fx 0 dX8_encode_17 rfl rfl ?_
  refine v_aload_n fx 1 dX8_encode_18 rfl rfl ?_
  refine v_get fx 0 12 inX8 k1008 dX8_encode_19 rfl rfl (by decide) rfl rfl rfl ?_
  refine v_icmp_ge fx 165 dX8_encode_22 (by decide) rfl (by omega) (by omega) (fun h_1 => ?_) (fun h0 => absurd h0 (by omega))
  rcases (show vk = 0 ∨ vk = 1 ∨ vk = 2 by omega) with rfl | rfl | rfl
  ·
    refine v_iconst fx dX8_encode_165 rfl ?_
    refine v_istore_n fx [(1, .int (iI 0)), (0, .ref h0)] dX8_encode_166 (by decide) rfl rfl ?_
    refine v_iload_n fx 0 dX8_encode_167 rfl rfl ?_
    refine v_aload_n fx 1 dX8_encode_168 rfl rfl ?_
    refine v_get fx 0 8 inX8 k1004 dX8_encode_169 rfl rfl (by decide) rfl rfl rfl ?_
    refine v_iconst fx dX8_encode_172 rfl ?_
    refine v_icmp_ge fx 181 dX8_encode_173 (by decide) rfl (by omega) (by omega) (fun h0 => absurd h0 (by omega)) (fun h_2 => ?_)
    refine v_bipush fx dX8_encode_176 (by decide +kernel) rfl ?_
    refine v_goto fx 182 dX8_encode_178 (by decide) ?_
    refine v_icmp_ge fx 208 dX8_encode_182 (by decide) rfl (by omega) (by omega) (fun h0 => absurd h0 (by omega)) (fun h_3 => ?_)
    refine v_aload_n fx 1 dX8_encode_185 rfl rfl ?_
    refine v_callV (As := []) (rest := []) fx [0, 1] [] [(h0, ob 8 [.ref xa, .ref xb, .ref xc, .ref xd, .ref xe, .ref xf, .ref xg, .int (iI 0), .int (iI 0), .int (iI vw), .ref xm, .ref xv, .int (iI 0), .ref xw, .int (iI 0), .int (iI 1), .ref xq, .int (iI ve), .int (iI vf), .int (iI vu), .int (iI vl), .ref xr, .ref xh, .ref xo, .ref xp, .int (iI vr), .int (iI va), .int (iI vt), .int (iI vm), .int (iI vd), .int (iI vx)]), (xw, aI g 72000 f)] [] 0 0 (c_X8_mark l g h0 xa xb xc xd xe xf xg xm xv xw xq xr xh xo xp 0 0 vw 0 0 1 ve vf vu vl vr va vt vm vd vx f (by first | omega | decide | assumption) (by first | omega | decide | assumption)) dX8_encode_186 k1106 k1108 k21 k57 k1109 ykX8_mark rfl rfl rfl rfl rfl rfl rfl rfl (nl rfl) ⟨nl rfl, nl rfl⟩ ⟨(nl rfl), (nl rfl)⟩ rfl (fun v9 w9 hu => ?_)
    obtain ⟨b2_4, f2_5, rfl, rfl, u_6⟩ := hu
    refine v_is (wn := [(h0, ob 8 [.ref xa, .ref xb, .ref xc, .ref xd, .ref xe, .ref xf, .ref xg, .int (iI 0), .int (iI 0), .int (iI vw), .ref xm, .ref xv, .int (iI 0), .ref xw, .int (iI b2_4), .int (iI 1), .ref xq, .int (iI ve), .int (iI vf), .int (iI vu), .int (iI vl), .ref xr, .ref xh, .ref xo, .ref xp, .int (iI vr), .int (iI va), .int (iI vt), .int (iI vm), .int (iI vd), .int (iI vx)]), (xw, aI g 72000 f2_5)]) (cn := 0) (sn := 0) (sn2 := []) rfl rfl rfl rfl ?_
    refine v_aload_n fx 1 dX8_encode_189 rfl rfl ?_
    refine v_get fx 0 8 inX8 k1004 dX8_encode_190 rfl rfl (by decide) rfl rfl rfl ?_
    refine v_iconst fx dX8_encode_193 rfl ?_
    refine v_icmp_ne fx 202 dX8_encode_194 (by decide) rfl (by omega) (by omega) (fun h_7 => ?_) (fun h0 => absurd h0 (by omega))
    refine v_iinc fx 0 (1) [(1, .int (iI 1)), (0, .ref h0)] dX8_encode_202 rfl (by omega) (by decide) rfl rfl ?_
    refine v_goto fx 167 dX8_encode_205 (by decide) ?_
    refine v_iload_n fx 0 dX8_encode_167 rfl rfl ?_
    refine v_aload_n fx 1 dX8_encode_168 rfl rfl ?_
    refine v_get fx 0 8 inX8 k1004 dX8_encode_169 rfl rfl (by decide) rfl rfl rfl ?_
    refine v_iconst fx dX8_encode_172 rfl ?_
    refine v_icmp_ge fx 181 dX8_encode_173 (by decide) rfl (by omega) (by omega) (fun h0 => absurd h0 (by omega)) (fun h_8 => ?_)
    refine v_bipush fx dX8_encode_176 (by decide +kernel) rfl ?_
    refine v_goto fx 182 dX8_encode_178 (by decide) ?_
    refine v_icmp_ge fx 208 dX8_encode_182 (by decide) rfl (by omega) (by omega) (fun h0 => absurd h0 (by omega)) (fun h_9 => ?_)
    refine v_aload_n fx 1 dX8_encode_185 rfl rfl ?_
    refine v_callV (As := []) (rest := []) fx [0, 1] [] [(h0, ob 8 [.ref xa, .ref xb, .ref xc, .ref xd, .ref xe, .ref xf, .ref xg, .int (iI 0), .int (iI 0), .int (iI vw), .ref xm, .ref xv, .int (iI 0), .ref xw, .int (iI b2_4), .int (iI 1), .ref xq, .int (iI ve), .int (iI vf), .int (iI vu), .int (iI vl), .ref xr, .ref xh, .ref xo, .ref xp, .int (iI vr), .int (iI va), .int (iI vt), .int (iI vm), .int (iI vd), .int (iI vx)]), (xw, aI g 72000 f2_5)] [] 0 0 (c_X8_mark l g h0 xa xb xc xd xe xf xg xm xv xw xq xr xh xo xp 0 0 vw 0 b2_4 1 ve vf vu vl vr va vt vm vd vx f2_5 (by first | omega | decide | assumption) (by first | omega | decide | assumption)) dX8_encode_186 k1106 k1108 k21 k57 k1109 ykX8_mark rfl rfl rfl rfl rfl rfl rfl rfl (nl rfl) ⟨nl rfl, nl rfl⟩ ⟨(nl rfl), (nl rfl)⟩ rfl (fun v9 w9 hu => ?_)
    obtain ⟨b2_10, f2_11, rfl, rfl, u_12⟩ := hu
    refine v_is (wn := [(h0, ob 8 [.ref xa, .ref xb, .ref xc, .ref xd, .ref xe, .ref xf, .ref xg, .int (iI 0), .int (iI 0), .int (iI vw), .ref xm, .ref xv, .int (iI 0), .ref xw, .int (iI b2_10), .int (iI 1), .ref xq, .int (iI ve), .int (iI vf), .int (iI vu), .int (iI vl), .ref xr, .ref xh, .ref xo, .ref xp, .int (iI vr), .int (iI va), .int (iI vt), .int (iI vm), .int (iI vd), .int (iI vx)]), (xw, aI g 72000 f2_11)]) (cn := 0) (sn := 0) (sn2 := []) rfl rfl rfl rfl ?_
    refine v_aload_n fx 1 dX8_encode_189 rfl rfl ?_
    refine v_get fx 0 8 inX8 k1004 dX8_encode_190 rfl rfl (by decide) rfl rfl rfl ?_
    refine v_iconst fx dX8_encode_193 rfl ?_
    refine v_icmp_ne fx 202 dX8_encode_194 (by decide) rfl (by omega) (by omega) (fun h_13 => ?_) (fun h0 => absurd h0 (by omega))
    refine v_iinc fx 0 (2) [(1, .int (iI 2)), (0, .ref h0)] dX8_encode_202 rfl (by omega) (by decide) rfl rfl ?_
    refine v_goto fx 167 dX8_encode_205 (by decide) ?_
    refine v_iload_n fx 0 dX8_encode_167 rfl rfl ?_
    refine v_aload_n fx 1 dX8_encode_168 rfl rfl ?_
    refine v_get fx 0 8 inX8 k1004 dX8_encode_169 rfl rfl (by decide) rfl rfl rfl ?_
    refine v_iconst fx dX8_encode_172 rfl ?_
    refine v_icmp_ge fx 181 dX8_encode_173 (by decide) rfl (by omega) (by omega) (fun h0 => absurd h0 (by omega)) (fun h_14 => ?_)
    refine v_bipush fx dX8_encode_176 (by decide +kernel) rfl ?_
    refine v_goto fx 182 dX8_encode_178 (by decide) ?_
    refine v_icmp_ge fx 208 dX8_encode_182 (by decide) rfl (by omega) (by omega) (fun h0 => absurd h0 (by omega)) (fun h_15 => ?_)
    refine v_aload_n fx 1 dX8_encode_185 rfl rfl ?_
    refine v_callV (As := []) (rest := []) fx [0, 1] [] [(h0, ob 8 [.ref xa, .ref xb, .ref xc, .ref xd, .ref xe, .ref xf, .ref xg, .int (iI 0), .int (iI 0), .int (iI vw), .ref xm, .ref xv, .int (iI 0), .ref xw, .int (iI b2_10), .int (iI 1), .ref xq, .int (iI ve), .int (iI vf), .int (iI vu), .int (iI vl), .ref xr, .ref xh, .ref xo, .ref xp, .int (iI vr), .int (iI va), .int (iI vt), .int (iI vm), .int (iI vd), .int (iI vx)]), (xw, aI g 72000 f2_11)] [] 0 0 (c_X8_mark l g h0 xa xb xc xd xe xf xg xm xv xw xq xr xh xo xp 0 0 vw 0 b2_10 1 ve vf vu vl vr va vt vm vd vx f2_11 (by first | omega | decide | assumption) (by first | omega | decide | assumption)) dX8_encode_186 k1106 k1108 k21 k57 k1109 ykX8_mark rfl rfl rfl rfl rfl rfl rfl rfl (nl rfl) ⟨nl rfl, nl rfl⟩ ⟨(nl rfl), (nl rfl)⟩ rfl (fun v9 w9 hu => ?_)
    obtain ⟨b2_16, f2_17, rfl, rfl, u_18⟩ := hu
    refine v_is (wn := [(h0, ob 8 [.ref xa, .ref xb, .ref xc, .ref xd, .ref xe, .ref xf, .ref xg, .int (iI 0), .int (iI 0), .int (iI vw), .ref xm, .ref xv, .int (iI 0), .ref xw, .int (iI b2_16), .int (iI 1), .ref xq, .int (iI ve), .int (iI vf), .int (iI vu), .int (iI vl), .ref xr, .ref xh, .ref xo, .ref xp, .int (iI vr), .int (iI va), .int (iI vt), .int (iI vm), .int (iI vd), .int (iI vx)]), (xw, aI g 72000 f2_17)]) (cn := 0) (sn := 0) (sn2 := []) rfl rfl rfl rfl ?_
    refine v_aload_n fx 1 dX8_encode_189 rfl rfl ?_
    refine v_get fx 0 8 inX8 k1004 dX8_encode_190 rfl rfl (by decide) rfl rfl rfl ?_
    refine v_iconst fx dX8_encode_193 rfl ?_
    refine v_icmp_ne fx 202 dX8_encode_194 (by decide) rfl (by omega) (by omega) (fun h_19 => ?_) (fun h0 => absurd h0 (by omega))
    refine v_iinc fx 0 (3) [(1, .int (iI 3)), (0, .ref h0)] dX8_encode_202 rfl (by omega) (by decide) rfl rfl ?_
    refine v_goto fx 167 dX8_encode_205 (by decide) ?_
    refine v_iload_n fx 0 dX8_encode_167 rfl rfl ?_
    refine v_aload_n fx 1 dX8_encode_168 rfl rfl ?_
    refine v_get fx 0 8 inX8 k1004 dX8_encode_169 rfl rfl (by decide) rfl rfl rfl ?_
    refine v_iconst fx dX8_encode_172 rfl ?_
    refine v_icmp_ge fx 181 dX8_encode_173 (by decide) rfl (by omega) (by omega) (fun h0 => absurd h0 (by omega)) (fun h_20 => ?_)
    refine v_bipush fx dX8_encode_176 (by decide +kernel) rfl ?_
    refine v_goto fx 182 dX8_encode_178 (by decide) ?_
    refine v_icmp_ge fx 208 dX8_encode_182 (by decide) rfl (by omega) (by omega) (fun h0 => absurd h0 (by omega)) (fun h_21 => ?_)
    refine v_aload_n fx 1 dX8_encode_185 rfl rfl ?_
    refine v_callV (As := []) (rest := []) fx [0, 1] [] [(h0, ob 8 [.ref xa, .ref xb, .ref xc, .ref xd, .ref xe, .ref xf, .ref xg, .int (iI 0), .int (iI 0), .int (iI vw), .ref xm, .ref xv, .int (iI 0), .ref xw, .int (iI b2_16), .int (iI 1), .ref xq, .int (iI ve), .int (iI vf), .int (iI vu), .int (iI vl), .ref xr, .ref xh, .ref xo, .ref xp, .int (iI vr), .int (iI va), .int (iI vt), .int (iI vm), .int (iI vd), .int (iI vx)]), (xw, aI g 72000 f2_17)] [] 0 0 (c_X8_mark l g h0 xa xb xc xd xe xf xg xm xv xw xq xr xh xo xp 0 0 vw 0 b2_16 1 ve vf vu vl vr va vt vm vd vx f2_17 (by first | omega | decide | assumption) (by first | omega | decide | assumption)) dX8_encode_186 k1106 k1108 k21 k57 k1109 ykX8_mark rfl rfl rfl rfl rfl rfl rfl rfl (nl rfl) ⟨nl rfl, nl rfl⟩ ⟨(nl rfl), (nl rfl)⟩ rfl (fun v9 w9 hu => ?_)
    obtain ⟨b2_22, f2_23, rfl, rfl, u_24⟩ := hu
    refine v_is (wn := [(h0, ob 8 [.ref xa, .ref xb, .ref xc, .ref xd, .ref xe, .ref xf, .ref xg, .int (iI 0), .int (iI 0), .int (iI vw), .ref xm, .ref xv, .int (iI 0), .ref xw, .int (iI b2_22), .int (iI 1), .ref xq, .int (iI ve), .int (iI vf), .int (iI vu), .int (iI vl), .ref xr, .ref xh, .ref xo, .ref xp, .int (iI vr), .int (iI va), .int (iI vt), .int (iI vm), .int (iI vd), .int (iI vx)]), (xw, aI g 72000 f2_23)]) (cn := 0) (sn := 0) (sn2 := []) rfl rfl rfl rfl ?_
    refine v_aload_n fx 1 dX8_encode_189 rfl rfl ?_
    refine v_get fx 0 8 inX8 k1004 dX8_encode_190 rfl rfl (by decide) rfl rfl rfl ?_
    refine v_iconst fx dX8_encode_193 rfl ?_
    refine v_icmp_ne fx 202 dX8_encode_194 (by decide) rfl (by omega) (by omega) (fun h_25 => ?_) (fun h0 => absurd h0 (by omega))
    refine v_iinc fx 0 (4) [(1, .int (iI 4)), (0, .ref h0)] dX8_encode_202 rfl (by omega) (by decide) rfl rfl ?_
    refine v_goto fx 167 dX8_encode_205 (by decide) ?_
    refine v_iload_n fx 0 dX8_encode_167 rfl rfl ?_
    refine v_aload_n fx 1 dX8_encode_168 rfl rfl ?_
    refine v_get fx 0 8 inX8 k1004 dX8_encode_169 rfl rfl (by decide) rfl rfl rfl ?_
    refine v_iconst fx dX8_encode_172 rfl ?_
    refine v_icmp_ge fx 181 dX8_encode_173 (by decide) rfl (by omega) (by omega) (fun h0 => absurd h0 (by omega)) (fun h_26 => ?_)
    refine v_bipush fx dX8_encode_176 (by decide +kernel) rfl ?_
    refine v_goto fx 182 dX8_encode_178 (by decide) ?_
    refine v_icmp_ge fx 208 dX8_encode_182 (by decide) rfl (by omega) (by omega) (fun h0 => absurd h0 (by omega)) (fun h_27 => ?_)
    refine v_aload_n fx 1 dX8_encode_185 rfl rfl ?_
    refine v_callV (As := []) (rest := []) fx [0, 1] [] [(h0, ob 8 [.ref xa, .ref xb, .ref xc, .ref xd, .ref xe, .ref xf, .ref xg, .int (iI 0), .int (iI 0), .int (iI vw), .ref xm, .ref xv, .int (iI 0), .ref xw, .int (iI b2_22), .int (iI 1), .ref xq, .int (iI ve), .int (iI vf), .int (iI vu), .int (iI vl), .ref xr, .ref xh, .ref xo, .ref xp, .int (iI vr), .int (iI va), .int (iI vt), .int (iI vm), .int (iI vd), .int (iI vx)]), (xw, aI g 72000 f2_23)] [] 0 0 (c_X8_mark l g h0 xa xb xc xd xe xf xg xm xv xw xq xr xh xo xp 0 0 vw 0 b2_22 1 ve vf vu vl vr va vt vm vd vx f2_23 (by first | omega | decide | assumption) (by first | omega | decide | assumption)) dX8_encode_186 k1106 k1108 k21 k57 k1109 ykX8_mark rfl rfl rfl rfl rfl rfl rfl rfl (nl rfl) ⟨nl rfl, nl rfl⟩ ⟨(nl rfl), (nl rfl)⟩ rfl (fun v9 w9 hu => ?_)
    obtain ⟨b2_28, f2_29, rfl, rfl, u_30⟩ := hu
    refine v_is (wn := [(h0, ob 8 [.ref xa, .ref xb, .ref xc, .ref xd, .ref xe, .ref xf, .ref xg, .int (iI 0), .int (iI 0), .int (iI vw), .ref xm, .ref xv, .int (iI 0), .ref xw, .int (iI b2_28), .int (iI 1), .ref xq, .int (iI ve), .int (iI vf), .int (iI vu), .int (iI vl), .ref xr, .ref xh, .ref xo, .ref xp, .int (iI vr), .int (iI va), .int (iI vt), .int (iI vm), .int (iI vd), .int (iI vx)]), (xw, aI g 72000 f2_29)]) (cn := 0) (sn := 0) (sn2 := []) rfl rfl rfl rfl ?_
    refine v_aload_n fx 1 dX8_encode_189 rfl rfl ?_
    refine v_get fx 0 8 inX8 k1004 dX8_encode_190 rfl rfl (by decide) rfl rfl rfl ?_
    refine v_iconst fx dX8_encode_193 rfl ?_
    refine v_icmp_ne fx 202 dX8_encode_194 (by decide) rfl (by omega) (by omega) (fun h_31 => ?_) (fun h0 => absurd h0 (by omega))
    refine v_iinc fx 0 (5) [(1, .int (iI 5)), (0, .ref h0)] dX8_encode_202 rfl (by omega) (by decide) rfl rfl ?_
    refine v_goto fx 167 dX8_encode_205 (by decide) ?_
    refine v_iload_n fx 0 dX8_encode_167 rfl rfl ?_
    refine v_aload_n fx 1 dX8_encode_168 rfl rfl ?_
    refine v_get fx 0 8 inX8 k1004 dX8_encode_169 rfl rfl (by decide) rfl rfl rfl ?_
    refine v_iconst fx dX8_encode_172 rfl ?_
    refine v_icmp_ge fx 181 dX8_encode_173 (by decide) rfl (by omega) (by omega) (fun h0 => absurd h0 (by omega)) (fun h_32 => ?_)
    refine v_bipush fx dX8_encode_176 (by decide +kernel) rfl ?_
    refine v_goto fx 182 dX8_encode_178 (by decide) ?_
    refine v_icmp_ge fx 208 dX8_encode_182 (by decide) rfl (by omega) (by omega) (fun h0 => absurd h0 (by omega)) (fun h_33 => ?_)
    refine v_aload_n fx 1 dX8_encode_185 rfl rfl ?_
    refine v_callV (As := []) (rest := []) fx [0, 1] [] [(h0, ob 8 [.ref xa, .ref xb, .ref xc, .ref xd, .ref xe, .ref xf, .ref xg, .int (iI 0), .int (iI 0), .int (iI vw), .ref xm, .ref xv, .int (iI 0), .ref xw, .int (iI b2_28), .int (iI 1), .ref xq, .int (iI ve), .int (iI vf), .int (iI vu), .int (iI vl), .ref xr, .ref xh, .ref xo, .ref xp, .int (iI vr), .int (iI va), .int (iI vt), .int (iI vm), .int (iI vd), .int (iI vx)]), (xw, aI g 72000 f2_29)] [] 0 0 (c_X8_mark l g h0 xa xb xc xd xe xf xg xm xv xw xq xr xh xo xp 0 0 vw 0 b2_28 1 ve vf vu vl vr va vt vm vd vx f2_29 (by first | omega | decide | assumption) (by first | omega | decide | assumption)) dX8_encode_186 k1106 k1108 k21 k57 k1109 ykX8_mark rfl rfl rfl rfl rfl rfl rfl rfl (nl rfl) ⟨nl rfl, nl rfl⟩ ⟨(nl rfl), (nl rfl)⟩ rfl (fun v9 w9 hu => ?_)
    obtain ⟨b2_34, f2_35, rfl, rfl, u_36⟩ := hu
    refine v_is (wn := [(h0, ob 8 [.ref xa, .ref xb, .ref xc, .ref xd, .ref xe, .ref xf, .ref xg, .int (iI 0), .int (iI 0), .int (iI vw), .ref xm, .ref xv, .int (iI 0), .ref xw, .int (iI b2_34), .int (iI 1), .ref xq, .int (iI ve), .int (iI vf), .int (iI vu), .int (iI vl), .ref xr, .ref xh, .ref xo, .ref xp, .int (iI vr), .int (iI va), .int (iI vt), .int (iI vm), .int (iI vd), .int (iI vx)]), (xw, aI g 72000 f2_35)]) (cn := 0) (sn := 0) (sn2 := []) rfl rfl rfl rfl ?_
    refine v_aload_n fx 1 dX8_encode_189 rfl rfl ?_
    refine v_get fx 0 8 inX8 k1004 dX8_encode_190 rfl rfl (by decide) rfl rfl rfl ?_
    refine v_iconst fx dX8_encode_193 rfl ?_
    refine v_icmp_ne fx 202 dX8_encode_194 (by decide) rfl (by omega) (by omega) (fun h_37 => ?_) (fun h0 => absurd h0 (by omega))
    refine v_iinc fx 0 (6) [(1, .int (iI 6)), (0, .ref h0)] dX8_encode_202 rfl (by omega) (by decide) rfl rfl ?_
    refine v_goto fx 167 dX8_encode_205 (by decide) ?_
    refine v_iload_n fx 0 dX8_encode_167 rfl rfl ?_
    refine v_aload_n fx 1 dX8_encode_168 rfl rfl ?_
    refine v_get fx 0 8 inX8 k1004 dX8_encode_169 rfl rfl (by decide) rfl rfl rfl ?_
    refine v_iconst fx dX8_encode_172 rfl ?_
    refine v_icmp_ge fx 181 dX8_encode_173 (by decide) rfl (by omega) (by omega) (fun h0 => absurd h0 (by omega)) (fun h_38 => ?_)
    refine v_bipush fx dX8_encode_176 (by decide +kernel) rfl ?_
    refine v_goto fx 182 dX8_encode_178 (by decide) ?_
    refine v_icmp_ge fx 208 dX8_encode_182 (by decide) rfl (by omega) (by omega) (fun h_39 => ?_) (fun h0 => absurd h0 (by omega))
    refine v_aload_n fx 1 dX8_encode_208 rfl rfl ?_
    refine v_get fx 0 14 inX8 k1010 dX8_encode_209 rfl rfl (by decide) rfl rfl rfl ?_
    refine v_bipush fx dX8_encode_212 (by decide +kernel) rfl ?_
    refine v_iadd fx (b2_34 + 7) dX8_encode_214 (by rfl) rfl ?_
    refine v_bipush fx dX8_encode_215 (by decide +kernel) rfl ?_
    refine v_idiv fx (iI ((b2_34 + 7) / 8)) dX8_encode_217 (by decide) (iI_div (by omega) 8 (by decide) (by decide)) rfl ?_
    exact v_iret fx [(h0, ob 8 [.ref xa, .ref xb, .ref xc, .ref xd, .ref xe, .ref xf, .ref xg, .int (iI 0), .int (iI 0), .int (iI vw), .ref xm, .ref xv, .int (iI 0), .ref xw, .int (iI b2_34), .int (iI 1), .ref xq, .int (iI ve), .int (iI vf), .int (iI vu), .int (iI vl), .ref xr, .ref xh, .ref xo, .ref xp, .int (iI vr), .int (iI va), .int (iI vt), .int (iI vm), .int (iI vd), .int (iI vx)]), (xw, aI g 72000 f2_35)] [0, 1] hr dX8_encode_218 rfl rfl (nl rfl) (nl rfl) ⟨((b2_34 + 7) / 8), b2_34, f2_35, rfl, rfl, (by first | omega | rfl | assumption)⟩
  ·
    refine v_iconst fx dX8_encode_165 rfl ?_
    refine v_istore_n fx [(1, .int (iI 0)), (0, .ref h0)] dX8_encode_166 (by decide) rfl rfl ?_
    refine v_iload_n fx 0 dX8_encode_167 rfl rfl ?_
    refine v_aload_n fx 1 dX8_encode_168 rfl rfl ?_
    refine v_get fx 0 8 inX8 k1004 dX8_encode_169 rfl rfl (by decide) rfl rfl rfl ?_
    refine v_iconst fx dX8_encode_172 rfl ?_
    refine v_icmp_ge fx 181 dX8_encode_173 (by decide) rfl (by omega) (by omega) (fun h0 => absurd h0 (by omega)) (fun h_40 => ?_)
    refine v_bipush fx dX8_encode_176 (by decide +kernel) rfl ?_
    refine v_goto fx 182 dX8_encode_178 (by decide) ?_
    refine v_icmp_ge fx 208 dX8_encode_182 (by decide) rfl (by omega) (by omega) (fun h0 => absurd h0 (by omega)) (fun h_41 => ?_)
    refine v_aload_n fx 1 dX8_encode_185 rfl rfl ?_
    refine v_callV (As := []) (rest := []) fx [0, 1] [] [(h0, ob 8 [.ref xa, .ref xb, .ref xc, .ref xd, .ref xe, .ref xf, .ref xg, .int (iI 0), .int (iI 1), .int (iI vw), .ref xm, .ref xv, .int (iI 0), .ref xw, .int (iI 0), .int (iI 1), .ref xq, .int (iI ve), .int (iI vf), .int (iI vu), .int (iI vl), .ref xr, .ref xh, .ref xo, .ref xp, .int (iI vr), .int (iI va), .int (iI vt), .int (iI vm), .int (iI vd), .int (iI vx)]), (xw, aI g 72000 f)] [] 0 0 (c_X8_mark l g h0 xa xb xc xd xe xf xg xm xv xw xq xr xh xo xp 0 1 vw 0 0 1 ve vf vu vl vr va vt vm vd vx f (by first | omega | decide | assumption) (by first | omega | decide | assumption)) dX8_encode_186 k1106 k1108 k21 k57 k1109 ykX8_mark rfl rfl rfl rfl rfl rfl rfl rfl (nl rfl) ⟨nl rfl, nl rfl⟩ ⟨(nl rfl), (nl rfl)⟩ rfl (fun v9 w9 hu => ?_)
    obtain ⟨b2_42, f2_43, rfl, rfl, u_44⟩ := hu
    refine v_is (wn := [(h0, ob 8 [.ref xa, .ref xb, .ref xc, .ref xd, .ref xe, .ref xf, .ref xg, .int (iI 0), .int (iI 1), .int (iI vw), .ref xm, .ref xv, .int (iI 0), .ref xw, .int (iI b2_42), .int (iI 1), .ref xq, .int (iI ve), .int (iI vf), .int (iI vu), .int (iI vl), .ref xr, .ref xh, .ref xo, .ref xp, .int (iI vr), .int (iI va), .int (iI vt), .int (iI vm), .int (iI vd), .int (iI vx)]), (xw, aI g 72000 f2_43)]) (cn := 0) (sn := 0) (sn2 := []) rfl rfl rfl rfl ?_
    refine v_aload_n fx 1 dX8_encode_189 rfl rfl ?_
    refine v_get fx 0 8 inX8 k1004 dX8_encode_190 rfl rfl (by decide) rfl rfl rfl ?_
    refine v_iconst fx dX8_encode_193 rfl ?_
    refine v_icmp_ne fx 202 dX8_encode_194 (by decide) rfl (by omega) (by omega) (fun h0 => absurd h0 (by omega)) (fun h_45 => ?_)
    refine v_aload_n fx 1 dX8_encode_197 rfl rfl ?_
    refine v_iconst fx dX8_encode_198 rfl ?_
    refine v_callV (As := [.int (iI 1)]) (rest := []) fx [0, 1] [] [(h0, ob 8 [.ref xa, .ref xb, .ref xc, .ref xd, .ref xe, .ref xf, .ref xg, .int (iI 0), .int (iI 1), .int (iI vw), .ref xm, .ref xv, .int (iI 0), .ref xw, .int (iI b2_42), .int (iI 1), .ref xq, .int (iI ve), .int (iI vf), .int (iI vu), .int (iI vl), .ref xr, .ref xh, .ref xo, .ref xp, .int (iI vr), .int (iI va), .int (iI vt), .int (iI vm), .int (iI vd), .int (iI vx)]), (xw, aI g 72000 f2_43)] [] 1 0 (c_X8_bit l g h0 xa xb xc xd xe xf xg xm xv xw xq xr xh xo xp 0 1 vw 0 b2_42 1 ve vf vu vl vr va vt vm vd vx f2_43 (iI 1) (by first | omega | decide | assumption) (by first | omega | decide | assumption)) dX8_encode_199 k1114 k1116 k23 k57 k1117 ykX8_bit rfl rfl rfl rfl rfl rfl rfl rfl (nl rfl) ⟨nl rfl, nl rfl⟩ ⟨(nl rfl), (nl rfl)⟩ rfl (fun v9 w9 hu => ?_)
    obtain ⟨f2_46, rfl, rfl⟩ := hu
    refine v_is (wn := [(h0, ob 8 [.ref xa, .ref xb, .ref xc, .ref xd, .ref xe, .ref xf, .ref xg, .int (iI 0), .int (iI 1), .int (iI vw), .ref xm, .ref xv, .int (iI 0), .ref xw, .int (iI (b2_42 + 1)), .int (iI 1), .ref xq, .int (iI ve), .int (iI vf), .int (iI vu), .int (iI vl), .ref xr, .ref xh, .ref xo, .ref xp, .int (iI vr), .int (iI va), .int (iI vt), .int (iI vm), .int (iI vd), .int (iI vx)]), (xw, aI g 72000 f2_46)]) (cn := 0) (sn := 0) (sn2 := []) rfl rfl rfl rfl ?_
    refine v_iinc fx 0 (1) [(1, .int (iI 1)), (0, .ref h0)] dX8_encode_202 rfl (by omega) (by decide) rfl rfl ?_
    refine v_goto fx 167 dX8_encode_205 (by decide) ?_
    refine v_iload_n fx 0 dX8_encode_167 rfl rfl ?_
    refine v_aload_n fx 1 dX8_encode_168 rfl rfl ?_
    refine v_get fx 0 8 inX8 k1004 dX8_encode_169 rfl rfl (by decide) rfl rfl rfl ?_
    refine v_iconst fx dX8_encode_172 rfl ?_
    refine v_icmp_ge fx 181 dX8_encode_173 (by decide) rfl (by omega) (by omega) (fun h0 => absurd h0 (by omega)) (fun h_47 => ?_)
    refine v_bipush fx dX8_encode_176 (by decide +kernel) rfl ?_
    refine v_goto fx 182 dX8_encode_178 (by decide) ?_
    refine v_icmp_ge fx 208 dX8_encode_182 (by decide) rfl (by omega) (by omega) (fun h0 => absurd h0 (by omega)) (fun h_48 => ?_)
    refine v_aload_n fx 1 dX8_encode_185 rfl rfl ?_
    refine v_callV (As := []) (rest := []) fx [0, 1] [] [(h0, ob 8 [.ref xa, .ref xb, .ref xc, .ref xd, .ref xe, .ref xf, .ref xg, .int (iI 0), .int (iI 1), .int (iI vw), .ref xm, .ref xv, .int (iI 0), .ref xw, .int (iI (b2_42 + 1)), .int (iI 1), .ref xq, .int (iI ve), .int (iI vf), .int (iI vu), .int (iI vl), .ref xr, .ref xh, .ref xo, .ref xp, .int (iI vr), .int (iI va), .int (iI vt), .int (iI vm), .int (iI vd), .int (iI vx)]), (xw, aI g 72000 f2_46)] [] 0 0 (c_X8_mark l g h0 xa xb xc xd xe xf xg xm xv xw xq xr xh xo xp 0 1 vw 0 (b2_42 + 1) 1 ve vf vu vl vr va vt vm vd vx f2_46 (by first | omega | decide | assumption) (by first | omega | decide | assumption)) dX8_encode_186 k1106 k1108 k21 k57 k1109 ykX8_mark rfl rfl rfl rfl rfl rfl rfl rfl (nl rfl) ⟨nl rfl, nl rfl⟩ ⟨(nl rfl), (nl rfl)⟩ rfl (fun v9 w9 hu => ?_)
    obtain ⟨b2_49, f2_50, rfl, rfl, u_51⟩ := hu
    refine v_is (wn := [(h0, ob 8 [.ref xa, .ref xb, .ref xc, .ref xd, .ref xe, .ref xf, .ref xg, .int (iI 0), .int (iI 1), .int (iI vw), .ref xm, .ref xv, .int (iI 0), .ref xw, .int (iI b2_49), .int (iI 1), .ref xq, .int (iI ve), .int (iI vf), .int (iI vu), .int (iI vl), .ref xr, .ref xh, .ref xo, .ref xp, .int (iI vr), .int (iI va), .int (iI vt), .int (iI vm), .int (iI vd), .int (iI vx)]), (xw, aI g 72000 f2_50)]) (cn := 0) (sn := 0) (sn2 := []) rfl rfl rfl rfl ?_
    refine v_aload_n fx 1 dX8_encode_189 rfl rfl ?_
    refine v_get fx 0 8 inX8 k1004 dX8_encode_190 rfl rfl (by decide) rfl rfl rfl ?_
    refine v_iconst fx dX8_encode_193 rfl ?_
    refine v_icmp_ne fx 202 dX8_encode_194 (by decide) rfl (by omega) (by omega) (fun h0 => absurd h0 (by omega)) (fun h_52 => ?_)
    refine v_aload_n fx 1 dX8_encode_197 rfl rfl ?_
    refine v_iconst fx dX8_encode_198 rfl ?_
    refine v_callV (As := [.int (iI 1)]) (rest := []) fx [0, 1] [] [(h0, ob 8 [.ref xa, .ref xb, .ref xc, .ref xd, .ref xe, .ref xf, .ref xg, .int (iI 0), .int (iI 1), .int (iI vw), .ref xm, .ref xv, .int (iI 0), .ref xw, .int (iI b2_49), .int (iI 1), .ref xq, .int (iI ve), .int (iI vf), .int (iI vu), .int (iI vl), .ref xr, .ref xh, .ref xo, .ref xp, .int (iI vr), .int (iI va), .int (iI vt), .int (iI vm), .int (iI vd), .int (iI vx)]), (xw, aI g 72000 f2_50)] [] 1 0 (c_X8_bit l g h0 xa xb xc xd xe xf xg xm xv xw xq xr xh xo xp 0 1 vw 0 b2_49 1 ve vf vu vl vr va vt vm vd vx f2_50 (iI 1) (by first | omega | decide | assumption) (by first | omega | decide | assumption)) dX8_encode_199 k1114 k1116 k23 k57 k1117 ykX8_bit rfl rfl rfl rfl rfl rfl rfl rfl (nl rfl) ⟨nl rfl, nl rfl⟩ ⟨(nl rfl), (nl rfl)⟩ rfl (fun v9 w9 hu => ?_)
    obtain ⟨f2_53, rfl, rfl⟩ := hu
    refine v_is (wn := [(h0, ob 8 [.ref xa, .ref xb, .ref xc, .ref xd, .ref xe, .ref xf, .ref xg, .int (iI 0), .int (iI 1), .int (iI vw), .ref xm, .ref xv, .int (iI 0), .ref xw, .int (iI (b2_49 + 1)), .int (iI 1), .ref xq, .int (iI ve), .int (iI vf), .int (iI vu), .int (iI vl), .ref xr, .ref xh, .ref xo, .ref xp, .int (iI vr), .int (iI va), .int (iI vt), .int (iI vm), .int (iI vd), .int (iI vx)]), (xw, aI g 72000 f2_53)]) (cn := 0) (sn := 0) (sn2 := []) rfl rfl rfl rfl ?_
    refine v_iinc fx 0 (2) [(1, .int (iI 2)), (0, .ref h0)] dX8_encode_202 rfl (by omega) (by decide) rfl rfl ?_
    refine v_goto fx 167 dX8_encode_205 (by decide) ?_
    refine v_iload_n fx 0 dX8_encode_167 rfl rfl ?_
    refine v_aload_n fx 1 dX8_encode_168 rfl rfl ?_
    refine v_get fx 0 8 inX8 k1004 dX8_encode_169 rfl rfl (by decide) rfl rfl rfl ?_
    refine v_iconst fx dX8_encode_172 rfl ?_
    refine v_icmp_ge fx 181 dX8_encode_173 (by decide) rfl (by omega) (by omega) (fun h0 => absurd h0 (by omega)) (fun h_54 => ?_)
    refine v_bipush fx dX8_encode_176 (by decide +kernel) rfl ?_
    refine v_goto fx 182 dX8_encode_178 (by decide) ?_
    refine v_icmp_ge fx 208 dX8_encode_182 (by decide) rfl (by omega) (by omega) (fun h0 => absurd h0 (by omega)) (fun h_55 => ?_)
    refine v_aload_n fx 1 dX8_encode_185 rfl rfl ?_
    refine v_callV (As := []) (rest := []) fx [0, 1] [] [(h0, ob 8 [.ref xa, .ref xb, .ref xc, .ref xd, .ref xe, .ref xf, .ref xg, .int (iI 0), .int (iI 1), .int (iI vw), .ref xm, .ref xv, .int (iI 0), .ref xw, .int (iI (b2_49 + 1)), .int (iI 1), .ref xq, .int (iI ve), .int (iI vf), .int (iI vu), .int (iI vl), .ref xr, .ref xh, .ref xo, .ref xp, .int (iI vr), .int (iI va), .int (iI vt), .int (iI vm), .int (iI vd), .int (iI vx)]), (xw, aI g 72000 f2_53)] [] 0 0 (c_X8_mark l g h0 xa xb xc xd xe xf xg xm xv xw xq xr xh xo xp 0 1 vw 0 (b2_49 + 1) 1 ve vf vu vl vr va vt vm vd vx f2_53 (by first | omega | decide | assumption) (by first | omega | decide | assumption)) dX8_encode_186 k1106 k1108 k21 k57 k1109 ykX8_mark rfl rfl rfl rfl rfl rfl rfl rfl (nl rfl) ⟨nl rfl, nl rfl⟩ ⟨(nl rfl), (nl rfl)⟩ rfl (fun v9 w9 hu => ?_)
    obtain ⟨b2_56, f2_57, rfl, rfl, u_58⟩ := hu
    refine v_is (wn := [(h0, ob 8 [.ref xa, .ref xb, .ref xc, .ref xd, .ref xe, .ref xf, .ref xg, .int (iI 0), .int (iI 1), .int (iI vw), .ref xm, .ref xv, .int (iI 0), .ref xw, .int (iI b2_56), .int (iI 1), .ref xq, .int (iI ve), .int (iI vf), .int (iI vu), .int (iI vl), .ref xr, .ref xh, .ref xo, .ref xp, .int (iI vr), .int (iI va), .int (iI vt), .int (iI vm), .int (iI vd), .int (iI vx)]), (xw, aI g 72000 f2_57)]) (cn := 0) (sn := 0) (sn2 := []) rfl rfl rfl rfl ?_
    refine v_aload_n fx 1 dX8_encode_189 rfl rfl ?_
    refine v_get fx 0 8 inX8 k1004 dX8_encode_190 rfl rfl (by decide) rfl rfl rfl ?_
    refine v_iconst fx dX8_encode_193 rfl ?_
    refine v_icmp_ne fx 202 dX8_encode_194 (by decide) rfl (by omega) (by omega) (fun h0 => absurd h0 (by omega)) (fun h_59 => ?_)
    refine v_aload_n fx 1 dX8_encode_197 rfl rfl ?_
    refine v_iconst fx dX8_encode_198 rfl ?_
    refine v_callV (As := [.int (iI 1)]) (rest := []) fx [0, 1] [] [(h0, ob 8 [.ref xa, .ref xb, .ref xc, .ref xd, .ref xe, .ref xf, .ref xg, .int (iI 0), .int (iI 1), .int (iI vw), .ref xm, .ref xv, .int (iI 0), .ref xw, .int (iI b2_56), .int (iI 1), .ref xq, .int (iI ve), .int (iI vf), .int (iI vu), .int (iI vl), .ref xr, .ref xh, .ref xo, .ref xp, .int (iI vr), .int (iI va), .int (iI vt), .int (iI vm), .int (iI vd), .int (iI vx)]), (xw, aI g 72000 f2_57)] [] 1 0 (c_X8_bit l g h0 xa xb xc xd xe xf xg xm xv xw xq xr xh xo xp 0 1 vw 0 b2_56 1 ve vf vu vl vr va vt vm vd vx f2_57 (iI 1) (by first | omega | decide | assumption) (by first | omega | decide | assumption)) dX8_encode_199 k1114 k1116 k23 k57 k1117 ykX8_bit rfl rfl rfl rfl rfl rfl rfl rfl (nl rfl) ⟨nl rfl, nl rfl⟩ ⟨(nl rfl), (nl rfl)⟩ rfl (fun v9 w9 hu => ?_)
    obtain ⟨f2_60, rfl, rfl⟩ := hu
    refine v_is (wn := [(h0, ob 8 [.ref xa, .ref xb, .ref xc, .ref xd, .ref xe, .ref xf, .ref xg, .int (iI 0), .int (iI 1), .int (iI vw), .ref xm, .ref xv, .int (iI 0), .ref xw, .int (iI (b2_56 + 1)), .int (iI 1), .ref xq, .int (iI ve), .int (iI vf), .int (iI vu), .int (iI vl), .ref xr, .ref xh, .ref xo, .ref xp, .int (iI vr), .int (iI va), .int (iI vt), .int (iI vm), .int (iI vd), .int (iI vx)]), (xw, aI g 72000 f2_60)]) (cn := 0) (sn := 0) (sn2 := []) rfl rfl rfl rfl ?_
    refine v_iinc fx 0 (3) [(1, .int (iI 3)), (0, .ref h0)] dX8_encode_202 rfl (by omega) (by decide) rfl rfl ?_
    refine v_goto fx 167 dX8_encode_205 (by decide) ?_
    refine v_iload_n fx 0 dX8_encode_167 rfl rfl ?_
    refine v_aload_n fx 1 dX8_encode_168 rfl rfl ?_
    refine v_get fx 0 8 inX8 k1004 dX8_encode_169 rfl rfl (by decide) rfl rfl rfl ?_
    refine v_iconst fx dX8_encode_172 rfl ?_
    refine v_icmp_ge fx 181 dX8_encode_173 (by decide) rfl (by omega) (by omega) (fun h0 => absurd h0 (by omega)) (fun h_61 => ?_)
    refine v_bipush fx dX8_encode_176 (by decide +kernel) rfl ?_
    refine v_goto fx 182 dX8_encode_178 (by decide) ?_
    refine v_icmp_ge fx 208 dX8_encode_182 (by decide) rfl (by omega) (by omega) (fun h0 => absurd h0 (by omega)) (fun h_62 => ?_)
    refine v_aload_n fx 1 dX8_encode_185 rfl rfl ?_
    refine v_callV (As := []) (rest := []) fx [0, 1] [] [(h0, ob 8 [.ref xa, .ref xb, .ref xc, .ref xd, .ref xe, .ref xf, .ref xg, .int (iI 0), .int (iI 1), .int (iI vw), .ref xm, .ref xv, .int (iI 0), .ref xw, .int (iI (b2_56 + 1)), .int (iI 1), .ref xq, .int (iI ve), .int (iI vf), .int (iI vu), .int (iI vl), .ref xr, .ref xh, .ref xo, .ref xp, .int (iI vr), .int (iI va), .int (iI vt), .int (iI vm), .int (iI vd), .int (iI vx)]), (xw, aI g 72000 f2_60)] [] 0 0 (c_X8_mark l g h0 xa xb xc xd xe xf xg xm xv xw xq xr xh xo xp 0 1 vw 0 (b2_56 + 1) 1 ve vf vu vl vr va vt vm vd vx f2_60 (by first | omega | decide | assumption) (by first | omega | decide | assumption)) dX8_encode_186 k1106 k1108 k21 k57 k1109 ykX8_mark rfl rfl rfl rfl rfl rfl rfl rfl (nl rfl) ⟨nl rfl, nl rfl⟩ ⟨(nl rfl), (nl rfl)⟩ rfl (fun v9 w9 hu => ?_)
    obtain ⟨b2_63, f2_64, rfl, rfl, u_65⟩ := hu
    refine v_is (wn := [(h0, ob 8 [.ref xa, .ref xb, .ref xc, .ref xd, .ref xe, .ref xf, .ref xg, .int (iI 0), .int (iI 1), .int (iI vw), .ref xm, .ref xv, .int (iI 0), .ref xw, .int (iI b2_63), .int (iI 1), .ref xq, .int (iI ve), .int (iI vf), .int (iI vu), .int (iI vl), .ref xr, .ref xh, .ref xo, .ref xp, .int (iI vr), .int (iI va), .int (iI vt), .int (iI vm), .int (iI vd), .int (iI vx)]), (xw, aI g 72000 f2_64)]) (cn := 0) (sn := 0) (sn2 := []) rfl rfl rfl rfl ?_
    refine v_aload_n fx 1 dX8_encode_189 rfl rfl ?_
    refine v_get fx 0 8 inX8 k1004 dX8_encode_190 rfl rfl (by decide) rfl rfl rfl ?_
    refine v_iconst fx dX8_encode_193 rfl ?_
    refine v_icmp_ne fx 202 dX8_encode_194 (by decide) rfl (by omega) (by omega) (fun h0 => absurd h0 (by omega)) (fun h_66 => ?_)
    refine v_aload_n fx 1 dX8_encode_197 rfl rfl ?_
    refine v_iconst fx dX8_encode_198 rfl ?_
    refine v_callV (As := [.int (iI 1)]) (rest := []) fx [0, 1] [] [(h0, ob 8 [.ref xa, .ref xb, .ref xc, .ref xd, .ref xe, .ref xf, .ref xg, .int (iI 0), .int (iI 1), .int (iI vw), .ref xm, .ref xv, .int (iI 0), .ref xw, .int (iI b2_63), .int (iI 1), .ref xq, .int (iI ve), .int (iI vf), .int (iI vu), .int (iI vl), .ref xr, .ref xh, .ref xo, .ref xp, .int (iI vr), .int (iI va), .int (iI vt), .int (iI vm), .int (iI vd), .int (iI vx)]), (xw, aI g 72000 f2_64)] [] 1 0 (c_X8_bit l g h0 xa xb xc xd xe xf xg xm xv xw xq xr xh xo xp 0 1 vw 0 b2_63 1 ve vf vu vl vr va vt vm vd vx f2_64 (iI 1) (by first | omega | decide | assumption) (by first | omega | decide | assumption)) dX8_encode_199 k1114 k1116 k23 k57 k1117 ykX8_bit rfl rfl rfl rfl rfl rfl rfl rfl (nl rfl) ⟨nl rfl, nl rfl⟩ ⟨(nl rfl), (nl rfl)⟩ rfl (fun v9 w9 hu => ?_)
    obtain ⟨f2_67, rfl, rfl⟩ := hu
    refine v_is (wn := [(h0, ob 8 [.ref xa, .ref xb, .ref xc, .ref xd, .ref xe, .ref xf, .ref xg, .int (iI 0), .int (iI 1), .int (iI vw), .ref xm, .ref xv, .int (iI 0), .ref xw, .int (iI (b2_63 + 1)), .int (iI 1), .ref xq, .int (iI ve), .int (iI vf), .int (iI vu), .int (iI vl), .ref xr, .ref xh, .ref xo, .ref xp, .int (iI vr), .int (iI va), .int (iI vt), .int (iI vm), .int (iI vd), .int (iI vx)]), (xw, aI g 72000 f2_67)]) (cn := 0) (sn := 0) (sn2 := []) rfl rfl rfl rfl ?_
    refine v_iinc fx 0 (4) [(1, .int (iI 4)), (0, .ref h0)] dX8_encode_202 rfl (by omega) (by decide) rfl rfl ?_
    refine v_goto fx 167 dX8_encode_205 (by decide) ?_
    refine v_iload_n fx 0 dX8_encode_167 rfl rfl ?_
    refine v_aload_n fx 1 dX8_encode_168 rfl rfl ?_
    refine v_get fx 0 8 inX8 k1004 dX8_encode_169 rfl rfl (by decide) rfl rfl rfl ?_
    refine v_iconst fx dX8_encode_172 rfl ?_
    refine v_icmp_ge fx 181 dX8_encode_173 (by decide) rfl (by omega) (by omega) (fun h0 => absurd h0 (by omega)) (fun h_68 => ?_)
    refine v_bipush fx dX8_encode_176 (by decide +kernel) rfl ?_
    refine v_goto fx 182 dX8_encode_178 (by decide) ?_
    refine v_icmp_ge fx 208 dX8_encode_182 (by decide) rfl (by omega) (by omega) (fun h0 => absurd h0 (by omega)) (fun h_69 => ?_)
    refine v_aload_n fx 1 dX8_encode_185 rfl rfl ?_
    refine v_callV (As := []) (rest := []) fx [0, 1] [] [(h0, ob 8 [.ref xa, .ref xb, .ref xc, .ref xd, .ref xe, .ref xf, .ref xg, .int (iI 0), .int (iI 1), .int (iI vw), .ref xm, .ref xv, .int (iI 0), .ref xw, .int (iI (b2_63 + 1)), .int (iI 1), .ref xq, .int (iI ve), .int (iI vf), .int (iI vu), .int (iI vl), .ref xr, .ref xh, .ref xo, .ref xp, .int (iI vr), .int (iI va), .int (iI vt), .int (iI vm), .int (iI vd), .int (iI vx)]), (xw, aI g 72000 f2_67)] [] 0 0 (c_X8_mark l g h0 xa xb xc xd xe xf xg xm xv xw xq xr xh xo xp 0 1 vw 0 (b2_63 + 1) 1 ve vf vu vl vr va vt vm vd vx f2_67 (by first | omega | decide | assumption) (by first | omega | decide | assumption)) dX8_encode_186 k1106 k1108 k21 k57 k1109 ykX8_mark rfl rfl rfl rfl rfl rfl rfl rfl (nl rfl) ⟨nl rfl, nl rfl⟩ ⟨(nl rfl), (nl rfl)⟩ rfl (fun v9 w9 hu => ?_)
    obtain ⟨b2_70, f2_71, rfl, rfl, u_72⟩ := hu
    refine v_is (wn := [(h0, ob 8 [.ref xa, .ref xb, .ref xc, .ref xd, .ref xe, .ref xf, .ref xg, .int (iI 0), .int (iI 1), .int (iI vw), .ref xm, .ref xv, .int (iI 0), .ref xw, .int (iI b2_70), .int (iI 1), .ref xq, .int (iI ve), .int (iI vf), .int (iI vu), .int (iI vl), .ref xr, .ref xh, .ref xo, .ref xp, .int (iI vr), .int (iI va), .int (iI vt), .int (iI vm), .int (iI vd), .int (iI vx)]), (xw, aI g 72000 f2_71)]) (cn := 0) (sn := 0) (sn2 := []) rfl rfl rfl rfl ?_
    refine v_aload_n fx 1 dX8_encode_189 rfl rfl ?_
    refine v_get fx 0 8 inX8 k1004 dX8_encode_190 rfl rfl (by decide) rfl rfl rfl ?_
    refine v_iconst fx dX8_encode_193 rfl ?_
    refine v_icmp_ne fx 202 dX8_encode_194 (by decide) rfl (by omega) (by omega) (fun h0 => absurd h0 (by omega)) (fun h_73 => ?_)
    refine v_aload_n fx 1 dX8_encode_197 rfl rfl ?_
    refine v_iconst fx dX8_encode_198 rfl ?_
    refine v_callV (As := [.int (iI 1)]) (rest := []) fx [0, 1] [] [(h0, ob 8 [.ref xa, .ref xb, .ref xc, .ref xd, .ref xe, .ref xf, .ref xg, .int (iI 0), .int (iI 1), .int (iI vw), .ref xm, .ref xv, .int (iI 0), .ref xw, .int (iI b2_70), .int (iI 1), .ref xq, .int (iI ve), .int (iI vf), .int (iI vu), .int (iI vl), .ref xr, .ref xh, .ref xo, .ref xp, .int (iI vr), .int (iI va), .int (iI vt), .int (iI vm), .int (iI vd), .int (iI vx)]), (xw, aI g 72000 f2_71)] [] 1 0 (c_X8_bit l g h0 xa xb xc xd xe xf xg xm xv xw xq xr xh xo xp 0 1 vw 0 b2_70 1 ve vf vu vl vr va vt vm vd vx f2_71 (iI 1) (by first | omega | decide | assumption) (by first | omega | decide | assumption)) dX8_encode_199 k1114 k1116 k23 k57 k1117 ykX8_bit rfl rfl rfl rfl rfl rfl rfl rfl (nl rfl) ⟨nl rfl, nl rfl⟩ ⟨(nl rfl), (nl rfl)⟩ rfl (fun v9 w9 hu => ?_)
    obtain ⟨f2_74, rfl, rfl⟩ := hu
    refine v_is (wn := [(h0, ob 8 [.ref xa, .ref xb, .ref xc, .ref xd, .ref xe, .ref xf, .ref xg, .int (iI 0), .int (iI 1), .int (iI vw), .ref xm, .ref xv, .int (iI 0), .ref xw, .int (iI (b2_70 + 1)), .int (iI 1), .ref xq, .int (iI ve), .int (iI vf), .int (iI vu), .int (iI vl), .ref xr, .ref xh, .ref xo, .ref xp, .int (iI vr), .int (iI va), .int (iI vt), .int (iI vm), .int (iI vd), .int (iI vx)]), (xw, aI g 72000 f2_74)]) (cn := 0) (sn := 0) (sn2 := []) rfl rfl rfl rfl ?_
    refine v_iinc fx 0 (5) [(1, .int (iI 5)), (0, .ref h0)] dX8_encode_202 rfl (by omega) (by decide) rfl rfl ?_
    refine v_goto fx 167 dX8_encode_205 (by decide) ?_
    refine v_iload_n fx 0 dX8_encode_167 rfl rfl ?_
    refine v_aload_n fx 1 dX8_encode_168 rfl rfl ?_
    refine v_get fx 0 8 inX8 k1004 dX8_encode_169 rfl rfl (by decide) rfl rfl rfl ?_
    refine v_iconst fx dX8_encode_172 rfl ?_
    refine v_icmp_ge fx 181 dX8_encode_173 (by decide) rfl (by omega) (by omega) (fun h0 => absurd h0 (by omega)) (fun h_75 => ?_)
    refine v_bipush fx dX8_encode_176 (by decide +kernel) rfl ?_
    refine v_goto fx 182 dX8_encode_178 (by decide) ?_
    refine v_icmp_ge fx 208 dX8_encode_182 (by decide) rfl (by omega) (by omega) (fun h0 => absurd h0 (by omega)) (fun h_76 => ?_)
    refine v_aload_n fx 1 dX8_encode_185 rfl rfl ?_
    refine v_callV (As := []) (rest := []) fx [0, 1] [] [(h0, ob 8 [.ref xa, .ref xb, .ref xc, .ref xd, .ref xe, .ref xf, .ref xg, .int (iI 0), .int (iI 1), .int (iI vw), .ref xm, .ref xv, .int (iI 0), .ref xw, .int (iI (b2_70 + 1)), .int (iI 1), .ref xq, .int (iI ve), .int (iI vf), .int (iI vu), .int (iI vl), .ref xr, .ref xh, .ref xo, .ref xp, .int (iI vr), .int (iI va), .int (iI vt), .int (iI vm), .int (iI vd), .int (iI vx)]), (xw, aI g 72000 f2_74)] [] 0 0 (c_X8_mark l g h0 xa xb xc xd xe xf xg xm xv xw xq xr xh xo xp 0 1 vw 0 (b2_70 + 1) 1 ve vf vu vl vr va vt vm vd vx f2_74 (by first | omega | decide | assumption) (by first | omega | decide | assumption)) dX8_encode_186 k1106 k1108 k21 k57 k1109 ykX8_mark rfl rfl rfl rfl rfl rfl rfl rfl (nl rfl) ⟨nl rfl, nl rfl⟩ ⟨(nl rfl), (nl rfl)⟩ rfl (fun v9 w9 hu => ?_)
    obtain ⟨b2_77, f2_78, rfl, rfl, u_79⟩ := hu
    refine v_is (wn := [(h0, ob 8 [.ref xa, .ref xb, .ref xc, .ref xd, .ref xe, .ref xf, .ref xg, .int (iI 0), .int (iI 1), .int (iI vw), .ref xm, .ref xv, .int (iI 0), .ref xw, .int (iI b2_77), .int (iI 1), .ref xq, .int (iI ve), .int (iI vf), .int (iI vu), .int (iI vl), .ref xr, .ref xh, .ref xo, .ref xp, .int (iI vr), .int (iI va), .int (iI vt), .int (iI vm), .int (iI vd), .int (iI vx)]), (xw, aI g 72000 f2_78)]) (cn := 0) (sn := 0) (sn2 := []) rfl rfl rfl rfl ?_
    refine v_aload_n fx 1 dX8_encode_189 rfl rfl ?_
    refine v_get fx 0 8 inX8 k1004 dX8_encode_190 rfl rfl (by decide) rfl rfl rfl ?_
    refine v_iconst fx dX8_encode_193 rfl ?_
    refine v_icmp_ne fx 202 dX8_encode_194 (by decide) rfl (by omega) (by omega) (fun h0 => absurd h0 (by omega)) (fun h_80 => ?_)
    refine v_aload_n fx 1 dX8_encode_197 rfl rfl ?_
    refine v_iconst fx dX8_encode_198 rfl ?_
    refine v_callV (As := [.int (iI 1)]) (rest := []) fx [0, 1] [] [(h0, ob 8 [.ref xa, .ref xb, .ref xc, .ref xd, .ref xe, .ref xf, .ref xg, .int (iI 0), .int (iI 1), .int (iI vw), .ref xm, .ref xv, .int (iI 0), .ref xw, .int (iI b2_77), .int (iI 1), .ref xq, .int (iI ve), .int (iI vf), .int (iI vu), .int (iI vl), .ref xr, .ref xh, .ref xo, .ref xp, .int (iI vr), .int (iI va), .int (iI vt), .int (iI vm), .int (iI vd), .int (iI vx)]), (xw, aI g 72000 f2_78)] [] 1 0 (c_X8_bit l g h0 xa xb xc xd xe xf xg xm xv xw xq xr xh xo xp 0 1 vw 0 b2_77 1 ve vf vu vl vr va vt vm vd vx f2_78 (iI 1) (by first | omega | decide | assumption) (by first | omega | decide | assumption)) dX8_encode_199 k1114 k1116 k23 k57 k1117 ykX8_bit rfl rfl rfl rfl rfl rfl rfl rfl (nl rfl) ⟨nl rfl, nl rfl⟩ ⟨(nl rfl), (nl rfl)⟩ rfl (fun v9 w9 hu => ?_)
    obtain ⟨f2_81, rfl, rfl⟩ := hu
    refine v_is (wn := [(h0, ob 8 [.ref xa, .ref xb, .ref xc, .ref xd, .ref xe, .ref xf, .ref xg, .int (iI 0), .int (iI 1), .int (iI vw), .ref xm, .ref xv, .int (iI 0), .ref xw, .int (iI (b2_77 + 1)), .int (iI 1), .ref xq, .int (iI ve), .int (iI vf), .int (iI vu), .int (iI vl), .ref xr, .ref xh, .ref xo, .ref xp, .int (iI vr), .int (iI va), .int (iI vt), .int (iI vm), .int (iI vd), .int (iI vx)]), (xw, aI g 72000 f2_81)]) (cn := 0) (sn := 0) (sn2 := []) rfl rfl rfl rfl ?_
    refine v_iinc fx 0 (6) [(1, .int (iI 6)), (0, .ref h0)] dX8_encode_202 rfl (by omega) (by decide) rfl rfl ?_
    refine v_goto fx 167 dX8_encode_205 (by decide) ?_
    refine v_iload_n fx 0 dX8_encode_167 rfl rfl ?_
    refine v_aload_n fx 1 dX8_encode_168 rfl rfl ?_
    refine v_get fx 0 8 inX8 k1004 dX8_encode_169 rfl rfl (by decide) rfl rfl rfl ?_
    refine v_iconst fx dX8_encode_172 rfl ?_
    refine v_icmp_ge fx 181 dX8_encode_173 (by decide) rfl (by omega) (by omega) (fun h0 => absurd h0 (by omega)) (fun h_82 => ?_)
    refine v_bipush fx dX8_encode_176 (by decide +kernel) rfl ?_
    refine v_goto fx 182 dX8_encode_178 (by decide) ?_
    refine v_icmp_ge fx 208 dX8_encode_182 (by decide) rfl (by omega) (by omega) (fun h_83 => ?_) (fun h0 => absurd h0 (by omega))
    refine v_aload_n fx 1 dX8_encode_208 rfl rfl ?_
    refine v_get fx 0 14 inX8 k1010 dX8_encode_209 rfl rfl (by decide) rfl rfl rfl ?_
    refine v_bipush fx dX8_encode_212 (by decide +kernel) rfl ?_
    refine v_iadd fx ((b2_77 + 1) + 7) dX8_encode_214 (by rfl) rfl ?_
    refine v_bipush fx dX8_encode_215 (by decide +kernel) rfl ?_
    refine v_idiv fx (iI (((b2_77 + 1) + 7) / 8)) dX8_encode_217 (by decide) (iI_div (by omega) 8 (by decide) (by decide)) rfl ?_
    exact v_iret fx [(h0, ob 8 [.ref xa, .ref xb, .ref xc, .ref xd, .ref xe, .ref xf, .ref xg, .int (iI 0), .int (iI 1), .int (iI vw), .ref xm, .ref xv, .int (iI 0), .ref xw, .int (iI (b2_77 + 1)), .int (iI 1), .ref xq, .int (iI ve), .int (iI vf), .int (iI vu), .int (iI vl), .ref xr, .ref xh, .ref xo, .ref xp, .int (iI vr), .int (iI va), .int (iI vt), .int (iI vm), .int (iI vd), .int (iI vx)]), (xw, aI g 72000 f2_81)] [0, 1] hr dX8_encode_218 rfl rfl (nl rfl) (nl rfl) ⟨(((b2_77 + 1) + 7) / 8), (b2_77 + 1), f2_81, rfl, rfl, (by first | omega | rfl | assumption)⟩
  ·
    refine v_iconst fx dX8_encode_165 rfl ?_
    refine v_istore_n fx [(1, .int (iI 0)), (0, .ref h0)] dX8_encode_166 (by decide) rfl rfl ?_
    refine v_iload_n fx 0 dX8_encode_167 rfl rfl ?_
    refine v_aload_n fx 1 dX8_encode_168 rfl rfl ?_
    refine v_get fx 0 8 inX8 k1004 dX8_encode_169 rfl rfl (by decide) rfl rfl rfl ?_
    refine v_iconst fx dX8_encode_172 rfl ?_
    refine v_icmp_ge fx 181 dX8_encode_173 (by decide) rfl (by omega) (by omega) (fun h_84 => ?_) (fun h0 => absurd h0 (by omega))
    refine v_iconst fx dX8_encode_181 rfl ?_
    refine v_icmp_ge fx 208 dX8_encode_182 (by decide) rfl (by omega) (by omega) (fun h0 => absurd h0 (by omega)) (fun h_85 => ?_)
    refine v_aload_n fx 1 dX8_encode_185 rfl rfl ?_
    refine v_callV (As := []) (rest := []) fx [0, 1] [] [(h0, ob 8 [.ref xa, .ref xb, .ref xc, .ref xd, .ref xe, .ref xf, .ref xg, .int (iI 0), .int (iI 2), .int (iI vw), .ref xm, .ref xv, .int (iI 0), .ref xw, .int (iI 0), .int (iI 1), .ref xq, .int (iI ve), .int (iI vf), .int (iI vu), .int (iI vl), .ref xr, .ref xh, .ref xo, .ref xp, .int (iI vr), .int (iI va), .int (iI vt), .int (iI vm), .int (iI vd), .int (iI vx)]), (xw, aI g 72000 f)] [] 0 0 (c_X8_mark l g h0 xa xb xc xd xe xf xg xm xv xw xq xr xh xo xp 0 2 vw 0 0 1 ve vf vu vl vr va vt vm vd vx f (by first | omega | decide | assumption) (by first | omega | decide | assumption)) dX8_encode_186 k1106 k1108 k21 k57 k1109 ykX8_mark rfl rfl rfl rfl rfl rfl rfl rfl (nl rfl) ⟨nl rfl, nl rfl⟩ ⟨(nl rfl), (nl rfl)⟩ rfl (fun v9 w9 hu => ?_)
    obtain ⟨b2_86, f2_87, rfl, rfl, u_88⟩ := hu
    refine v_is (wn := [(h0, ob 8 [.ref xa, .ref xb, .ref xc, .ref xd, .ref xe, .ref xf, .ref xg, .int (iI 0), .int (iI 2), .int (iI vw), .ref xm, .ref xv, .int (iI 0), .ref xw, .int (iI b2_86), .int (iI 1), .ref xq, .int (iI ve), .int (iI vf), .int (iI vu), .int (iI vl), .ref xr, .ref xh, .ref xo, .ref xp, .int (iI vr), .int (iI va), .int (iI vt), .int (iI vm), .int (iI vd), .int (iI vx)]), (xw, aI g 72000 f2_87)]) (cn := 0) (sn := 0) (sn2 := []) rfl rfl rfl rfl ?_
    refine v_aload_n fx 1 dX8_encode_189 rfl rfl ?_
    refine v_get fx 0 8 inX8 k1004 dX8_encode_190 rfl rfl (by decide) rfl rfl rfl ?_
    refine v_iconst fx dX8_encode_193 rfl ?_
    refine v_icmp_ne fx 202 dX8_encode_194 (by decide) rfl (by omega) (by omega) (fun h_89 => ?_) (fun h0 => absurd h0 (by omega))
    refine v_iinc fx 0 (1) [(1, .int (iI 1)), (0, .ref h0)] dX8_encode_202 rfl (by omega) (by decide) rfl rfl ?_
    refine v_goto fx 167 dX8_encode_205 (by decide) ?_
    refine v_iload_n fx 0 dX8_encode_167 rfl rfl ?_
    refine v_aload_n fx 1 dX8_encode_168 rfl rfl ?_
    refine v_get fx 0 8 inX8 k1004 dX8_encode_169 rfl rfl (by decide) rfl rfl rfl ?_
    refine v_iconst fx dX8_encode_172 rfl ?_
    refine v_icmp_ge fx 181 dX8_encode_173 (by decide) rfl (by omega) (by omega) (fun h_90 => ?_) (fun h0 => absurd h0 (by omega))
    refine v_iconst fx dX8_encode_181 rfl ?_
    refine v_icmp_ge fx 208 dX8_encode_182 (by decide) rfl (by omega) (by omega) (fun h0 => absurd h0 (by omega)) (fun h_91 => ?_)
    refine v_aload_n fx 1 dX8_encode_185 rfl rfl ?_
    refine v_callV (As := []) (rest := []) fx [0, 1] [] [(h0, ob 8 [.ref xa, .ref xb, .ref xc, .ref xd, .ref xe, .ref xf, .ref xg, .int (iI 0), .int (iI 2), .int (iI vw), .ref xm, .ref xv, .int (iI 0), .ref xw, .int (iI b2_86), .int (iI 1), .ref xq, .int (iI ve), .int (iI vf), .int (iI vu), .int (iI vl), .ref xr, .ref xh, .ref xo, .ref xp, .int (iI vr), .int (iI va), .int (iI vt), .int (iI vm), .int (iI vd), .int (iI vx)]), (xw, aI g 72000 f2_87)] [] 0 0 (c_X8_mark l g h0 xa xb xc xd xe xf xg xm xv xw xq xr xh xo xp 0 2 vw 0 b2_86 1 ve vf vu vl vr va vt vm vd vx f2_87 (by first | omega | decide | assumption) (by first | omega | decide | assumption)) dX8_encode_186 k1106 k1108 k21 k57 k1109 ykX8_mark rfl rfl rfl rfl rfl rfl rfl rfl (nl rfl) ⟨nl rfl, nl rfl⟩ ⟨(nl rfl), (nl rfl)⟩ rfl (fun v9 w9 hu => ?_)
    obtain ⟨b2_92, f2_93, rfl, rfl, u_94⟩ := hu
    refine v_is (wn := [(h0, ob 8 [.ref xa, .ref xb, .ref xc, .ref xd, .ref xe, .ref xf, .ref xg, .int (iI 0), .int (iI 2), .int (iI vw), .ref xm, .ref xv, .int (iI 0), .ref xw, .int (iI b2_92), .int (iI 1), .ref xq, .int (iI ve), .int (iI vf), .int (iI vu), .int (iI vl), .ref xr, .ref xh, .ref xo, .ref xp, .int (iI vr), .int (iI va), .int (iI vt), .int (iI vm), .int (iI vd), .int (iI vx)]), (xw, aI g 72000 f2_93)]) (cn := 0) (sn := 0) (sn2 := []) rfl rfl rfl rfl ?_
    refine v_aload_n fx 1 dX8_encode_189 rfl rfl ?_
    refine v_get fx 0 8 inX8 k1004 dX8_encode_190 rfl rfl (by decide) rfl rfl rfl ?_
    refine v_iconst fx dX8_encode_193 rfl ?_
    refine v_icmp_ne fx 202 dX8_encode_194 (by decide) rfl (by omega) (by omega) (fun h_95 => ?_) (fun h0 => absurd h0 (by omega))
    refine v_iinc fx 0 (2) [(1, .int (iI 2)), (0, .ref h0)] dX8_encode_202 rfl (by omega) (by decide) rfl rfl ?_
    refine v_goto fx 167 dX8_encode_205 (by decide) ?_
    refine v_iload_n fx 0 dX8_encode_167 rfl rfl ?_
    refine v_aload_n fx 1 dX8_encode_168 rfl rfl ?_
    refine v_get fx 0 8 inX8 k1004 dX8_encode_169 rfl rfl (by decide) rfl rfl rfl ?_
    refine v_iconst fx dX8_encode_172 rfl ?_
    refine v_icmp_ge fx 181 dX8_encode_173 (by decide) rfl (by omega) (by omega) (fun h_96 => ?_) (fun h0 => absurd h0 (by omega))
    refine v_iconst fx dX8_encode_181 rfl ?_
    refine v_icmp_ge fx 208 dX8_encode_182 (by decide) rfl (by omega) (by omega) (fun h_97 => ?_) (fun h0 => absurd h0 (by omega))
    refine v_aload_n fx 1 dX8_encode_208 rfl rfl ?_
    refine v_get fx 0 14 inX8 k1010 dX8_encode_209 rfl rfl (by decide) rfl rfl rfl ?_
    refine v_bipush fx dX8_encode_212 (by decide +kernel) rfl ?_
    refine v_iadd fx (b2_92 + 7) dX8_encode_214 (by rfl) rfl ?_
    refine v_bipush fx dX8_encode_215 (by decide +kernel) rfl ?_
    refine v_idiv fx (iI ((b2_92 + 7) / 8)) dX8_encode_217 (by decide) (iI_div (by omega) 8 (by decide) (by decide)) rfl ?_
    exact v_iret fx [(h0, ob 8 [.ref xa, .ref xb, .ref xc, .ref xd, .ref xe, .ref xf, .ref xg, .int (iI 0), .int (iI 2), .int (iI vw), .ref xm, .ref xv, .int (iI 0), .ref xw, .int (iI b2_92), .int (iI 1), .ref xq, .int (iI ve), .int (iI vf), .int (iI vu), .int (iI vl), .ref xr, .ref xh, .ref xo, .ref xp, .int (iI vr), .int (iI va), .int (iI vt), .int (iI vm), .int (iI vd), .int (iI vx)]), (xw, aI g 72000 f2_93)] [0, 1] hr dX8_encode_218 rfl rfl (nl rfl) (nl rfl) ⟨((b2_92 + 7) / 8), b2_92, f2_93, rfl, rfl, (by first | omega | rfl | assumption)⟩
theorem dX8_byteAt_0 : decode cX8_byteAt 0 = .ok (.aload_n 0, 1) := by decide +kernel
theorem dX8_byteAt_1 : decode cX8_byteAt 1 = .ok (.iconst 0, 1) := by decide +kernel
theorem dX8_byteAt_2 : decode cX8_byteAt 2 = .ok (.putfield 66, 3) := by decide +kernel
theorem dX8_byteAt_5 : decode cX8_byteAt 5 = .ok (.aload_n 0, 1) := by decide +kernel
theorem dX8_byteAt_6 : decode cX8_byteAt 6 = .ok (.getfield 108, 3) := by decide +kernel
theorem dX8_byteAt_9 : decode cX8_byteAt 9 = .ok (.ifCond .eq 30, 3) := by decide +kernel
theorem dX8_byteAt_39 : decode cX8_byteAt 39 = .ok (.iconst (-1), 1) := by decide +kernel
theorem dX8_byteAt_40 : decode cX8_byteAt 40 = .ok (.ireturn, 1) := by decide +kernel
abbrev po_c_X8_byteAt_0 (g : GG) (h0 : Nat) (xa : Nat) (xb : Nat) (xc : Nat) (xd : Nat) (xe : Nat) (xf : Nat) (xg : Nat) (xm : Nat) (xv : Nat) (xw : Nat) (xq : Nat) (xr : Nat) (xh : Nat) (xo : Nat) (xp : Nat) (vc : Int) (vk : Int) (vw : Int) (vg : Int) (vb : Int) (ve : Int) (vf : Int) (vu : Int) (vl : Int) (vr : Int) (va : Int) (vt : Int) (vm : Int) (vd : Int) (vx : Int) (x : Int) : Option Value → va_W → Prop := fun v8 w8 => v8 = some (.int (iI (-1))) ∧ w8 = [(h0, ob 8 [.ref xa, .ref xb, .ref xc, .ref xd, .ref xe, .ref xf, .ref xg, .int (iI 0), .int (iI vk), .int (iI vw), .ref xm, .ref xv, .int (iI vg), .ref xw, .int (iI vb), .int (iI 0), .ref xq, .int (iI ve), .int (iI vf), .int (iI vu), .int (iI vl), .ref xr, .ref xh, .ref xo, .ref xp, .int (iI vr), .int (iI va), .int (iI vt), .int (iI vm), .int (iI vd), .int (iI vx)])]
set_option maxHeartbeats 4000000 in
set_option maxRecDepth 100000 in
theorem c_X8_byteAt_0 (l : Launch) (g : GG) (h0 : Nat) (xa : Nat) (xb : Nat) (xc : Nat) (xd : Nat) (xe : Nat) (xf : Nat) (xg : Nat) (xm : Nat) (xv : Nat) (xw : Nat) (xq : Nat) (xr : Nat) (xh : Nat) (xo : Nat) (xp : Nat) (vc : Int) (vk : Int) (vw : Int) (vg : Int) (vb : Int) (ve : Int) (vf : Int) (vu : Int) (vl : Int) (vr : Int) (va : Int) (vt : Int) (vm : Int) (vd : Int) (vx : Int) (x : Int) : Ct l g yX8_byteAt (wM yX8_byteAt cX8_byteAt 2 (some .int)) (rmD 0 0 0) [.ref h0, .int (iI x)] [(h0, ob 8 [.ref xa, .ref xb, .ref xc, .ref xd, .ref xe, .ref xf, .ref xg, .int (iI vc), .int (iI vk), .int (iI vw), .ref xm, .ref xv, .int (iI vg), .ref xw, .int (iI vb), .int (iI 0), .ref xq, .int (iI ve), .int (iI vf), .int (iI vu), .int (iI vl), .ref xr, .ref xh, .ref xo, .ref xp, .int (iI vr), .int (iI va), .int (iI vt), .int (iI vm), .int (iI vd), .int (iI vx)])] (po_c_X8_byteAt_0 g h0 xa xb xc xd xe xf xg xm xv xw xq xr xh xo xp vc vk vw vg vb ve vf vu vl vr va vt vm vd vx x) := by
  refine Ct_of (by decide +kernel) (Nat.le_of_ble_eq_true rfl) ?_
  intro p9 e9 s9 m9 ag9 bl9 mt9 c9 A9 fx hr hnm
  refine v_aload_n fx 0 dX8_byteAt_0 rfl rfl ?_
  refine v_iconst fx dX8_byteAt_1 rfl ?_
  refine v_put fx 0 7 [(h0, ob 8 [.ref xa, .ref xb, .ref xc, .ref xd, .ref xe, .ref xf, .ref xg, .int (iI 0), .int (iI vk), .int (iI vw), .ref xm, .ref xv, .int (iI vg), .ref xw, .int (iI vb), .int (iI 0), .ref xq, .int (iI ve), .int (iI vf), .int (iI vu), .int (iI vl), .ref xr, .ref xh, .ref xo, .ref xp, .int (iI vr), .int (iI va), .int (iI vt), .int (iI vm), .int (iI vd), .int (iI vx)])] inX8 tyX8_ok nmX8 k1003 dX8_byteAt_2 rfl rfl (by decide) rfl rfl rfl rfl (nl rfl) rfl rfl ?_
  refine v_aload_n fx 0 dX8_byteAt_5 rfl rfl ?_
  refine v_get fx 0 15 inX8 k1011 dX8_byteAt_6 rfl rfl (by decide) rfl rfl rfl ?_
  refine v_if_eq fx 39 dX8_byteAt_9 (by decide) rfl (by omega) (fun h_1 => ?_) (fun h0 => absurd h0 (by omega))
  refine v_iconst fx dX8_byteAt_39 rfl ?_
  exact v_iret fx [(h0, ob 8 [.ref xa, .ref xb, .ref xc, .ref xd, .ref xe, .ref xf, .ref xg, .int (iI 0), .int (iI vk), .int (iI vw), .ref xm, .ref xv, .int (iI vg), .ref xw, .int (iI vb), .int (iI 0), .ref xq, .int (iI ve), .int (iI vf), .int (iI vu), .int (iI vl), .ref xr, .ref xh, .ref xo, .ref xp, .int (iI vr), .int (iI va), .int (iI vt), .int (iI vm), .int (iI vd), .int (iI vx)])] [0] hr dX8_byteAt_40 rfl rfl (nl rfl) (nl rfl) ⟨rfl, rfl⟩
theorem dX8_feed_0 : decode cX8_feed 0 = .ok (.aload_n 0, 1) := by decide +kernel
theorem dX8_feed_1 : decode cX8_feed 1 = .ok (.iconst 0, 1) := by decide +kernel
theorem dX8_feed_2 : decode cX8_feed 2 = .ok (.putfield 66, 3) := by decide +kernel
theorem dX8_feed_5 : decode cX8_feed 5 = .ok (.aload_n 0, 1) := by decide +kernel
theorem dX8_feed_6 : decode cX8_feed 6 = .ok (.getfield 123, 3) := by decide +kernel
theorem dX8_feed_9 : decode cX8_feed 9 = .ok (.sipush 2000, 3) := by decide +kernel
theorem dX8_feed_12 : decode cX8_feed 12 = .ok (.if_icmp .ne 5, 3) := by decide +kernel
theorem dX8_feed_15 : decode cX8_feed 15 = .ok (.iconst 0, 1) := by decide +kernel
theorem dX8_feed_16 : decode cX8_feed 16 = .ok (.ireturn, 1) := by decide +kernel
theorem dX8_feed_17 : decode cX8_feed 17 = .ok (.aload_n 0, 1) := by decide +kernel
theorem dX8_feed_18 : decode cX8_feed 18 = .ok (.getfield 42, 3) := by decide +kernel
theorem dX8_feed_21 : decode cX8_feed 21 = .ok (.aload_n 0, 1) := by decide +kernel
theorem dX8_feed_22 : decode cX8_feed 22 = .ok (.getfield 123, 3) := by decide +kernel
theorem dX8_feed_25 : decode cX8_feed 25 = .ok (.iload_n 1, 1) := by decide +kernel
theorem dX8_feed_26 : decode cX8_feed 26 = .ok (.sipush 255, 3) := by decide +kernel
theorem dX8_feed_29 : decode cX8_feed 29 = .ok (.iand, 1) := by decide +kernel
theorem dX8_feed_30 : decode cX8_feed 30 = .ok (.iastore, 1) := by decide +kernel
theorem dX8_feed_31 : decode cX8_feed 31 = .ok (.aload_n 0, 1) := by decide +kernel
theorem dX8_feed_32 : decode cX8_feed 32 = .ok (.dup, 1) := by decide +kernel
theorem dX8_feed_33 : decode cX8_feed 33 = .ok (.getfield 123, 3) := by decide +kernel
theorem dX8_feed_36 : decode cX8_feed 36 = .ok (.iconst 1, 1) := by decide +kernel
theorem dX8_feed_37 : decode cX8_feed 37 = .ok (.iadd, 1) := by decide +kernel
theorem dX8_feed_38 : decode cX8_feed 38 = .ok (.putfield 123, 3) := by decide +kernel
theorem dX8_feed_41 : decode cX8_feed 41 = .ok (.iconst 1, 1) := by decide +kernel
theorem dX8_feed_42 : decode cX8_feed 42 = .ok (.ireturn, 1) := by decide +kernel
abbrev po_c_X8_feed (g : GG) (h0 : Nat) (xa : Nat) (xb : Nat) (xc : Nat) (xd : Nat) (xe : Nat) (xf : Nat) (xg : Nat) (xm : Nat) (xv : Nat) (xw : Nat) (xq : Nat) (xr : Nat) (xh : Nat) (xo : Nat) (xp : Nat) (vc : Int) (vk : Int) (vw : Int) (vg : Int) (vb : Int) (vi : Int) (ve : Int) (vf : Int) (vu : Int) (vl : Int) (vr : Int) (va : Int) (vt : Int) (vm : Int) (vd : Int) (vx : Int) (f : Nat → Int32) (x : Int32) : Option Value → va_W → Prop := fun v8 w8 => ∃ r : Int, ∃ e2 : Int, ∃ f2 : Nat → Int32, v8 = some (.int (iI r)) ∧ w8 = [(h0, ob 8 [.ref xa, .ref xb, .ref xc, .ref xd, .ref xe, .ref xf, .ref xg, .int (iI 0), .int (iI vk), .int (iI vw), .ref xm, .ref xv, .int (iI vg), .ref xw, .int (iI vb), .int (iI vi), .ref xq, .int (iI e2), .int (iI vf), .int (iI vu), .int (iI vl), .ref xr, .ref xh, .ref xo, .ref xp, .int (iI vr), .int (iI va), .int (iI vt), .int (iI vm), .int (iI vd), .int (iI vx)]), (xq, aI g 2000 f2)] ∧ ((r = 1 ∧ ve < 2000 ∧ e2 = ve + 1) ∨ (r = 0 ∧ ve = 2000 ∧ e2 = ve))
set_option maxHeartbeats 4000000 in
set_option maxRecDepth 100000 in
theorem c_X8_feed (l : Launch) (g : GG) (h0 : Nat) (xa : Nat) (xb : Nat) (xc : Nat) (xd : Nat) (xe : Nat) (xf : Nat) (xg : Nat) (xm : Nat) (xv : Nat) (xw : Nat) (xq : Nat) (xr : Nat) (xh : Nat) (xo : Nat) (xp : Nat) (vc : Int) (vk : Int) (vw : Int) (vg : Int) (vb : Int) (vi : Int) (ve : Int) (vf : Int) (vu : Int) (vl : Int) (vr : Int) (va : Int) (vt : Int) (vm : Int) (vd : Int) (vx : Int) (f : Nat → Int32) (x : Int32) (hp0 : 0 ≤ ve ∧ ve ≤ 2000) : Ct l g yX8_feed (wM yX8_feed cX8_feed 2 (some .boolean)) (rmD 0 0 0) [.ref h0, .int x] [(h0, ob 8 [.ref xa, .ref xb, .ref xc, .ref xd, .ref xe, .ref xf, .ref xg, .int (iI vc), .int (iI vk), .int (iI vw), .ref xm, .ref xv, .int (iI vg), .ref xw, .int (iI vb), .int (iI vi), .ref xq, .int (iI ve), .int (iI vf), .int (iI vu), .int (iI vl), .ref xr, .ref xh, .ref xo, .ref xp, .int (iI vr), .int (iI va), .int (iI vt), .int (iI vm), .int (iI vd), .int (iI vx)]), (xq, aI g 2000 f)] (po_c_X8_feed g h0 xa xb xc xd xe xf xg xm xv xw xq xr xh xo xp vc vk vw vg vb vi ve vf vu vl vr va vt vm vd vx f x) := by
  refine Ct_of (by decide +kernel) (Nat.le_of_ble_eq_true rfl) ?_
  intro p9 e9 s9 m9 ag9 bl9 mt9 c9 A9 fx hr hnm
  refine v_aload_n fx 0 dX8_feed_0 rfl rfl ?_
  refine v_iconst fx dX8_feed_1 rfl ?_
  refine v_put fx 0 7 [(h0, ob 8 [.ref xa, .ref xb, .ref xc, .ref xd, .ref xe, .ref xf, .ref xg, .int (iI 0), .int (iI vk), .int (iI vw), .ref xm, .ref xv, .int (iI vg), .ref xw, .int (iI vb), .int (iI vi), .ref xq, .int (iI ve), .int (iI vf), .int (iI vu), .int (iI vl), .ref xr, .ref xh, .ref xo, .ref xp, .int (iI vr), .int (iI va), .int (iI vt), .int (iI vm), .int (iI vd), .int (iI vx)]), (xq, aI g 2000 f)] inX8 tyX8_ok nmX8 k1003 dX8_feed_2 rfl rfl (by decide) rfl rfl rfl rfl (nl rfl) rfl rfl ?_
  refine v_aload_n fx 0 dX8_feed_5 rfl rfl ?_
  refine v_get fx 0 17 inX8 k1013 dX8_feed_6 rfl rfl (by decide) rfl rfl rfl ?_
  refine v_sipush fx dX8_feed_9 (by decide +kernel) rfl ?_
  refine v_icmp_ne fx 17 dX8_feed_12 (by decide) rfl (by omega) (by omega) (fun h_1 => ?_) (fun h_1 => ?_)
  ·
    refine v_aload_n fx 0 dX8_feed_17 rfl rfl ?_
    refine v_get fx 0 16 inX8 k1012 dX8_feed_18 rfl rfl (by decide) rfl rfl rfl ?_
    refine v_aload_n fx 0 dX8_feed_21 rfl rfl ?_
    refine v_get fx 0 17 inX8 k1013 dX8_feed_22 rfl rfl (by decide) rfl rfl rfl ?_
    refine v_iload_n fx 1 dX8_feed_25 rfl rfl ?_
    refine v_sipush fx dX8_feed_26 (by decide +kernel) rfl ?_
    obtain ⟨t_2, et_2⟩ : ∃ x9 : Int32, x &&& (iI 255) = x9 := ⟨_, rfl⟩
    refine v_iand fx t_2 dX8_feed_29 et_2 rfl ?_
    obtain ⟨f_3, ef_3⟩ : ∃ f9 : Nat → Int32, upd f (ve).toNat t_2 = f9 := ⟨_, rfl⟩
    refine v_iast fx 1 f_3 [(h0, ob 8 [.ref xa, .ref xb, .ref xc, .ref xd, .ref xe, .ref xf, .ref xg, .int (iI 0), .int (iI vk), .int (iI vw), .ref xm, .ref xv, .int (iI vg), .ref xw, .int (iI vb), .int (iI vi), .ref xq, .int (iI ve), .int (iI vf), .int (iI vu), .int (iI vl), .ref xr, .ref xh, .ref xo, .ref xp, .int (iI vr), .int (iI va), .int (iI vt), .int (iI vm), .int (iI vd), .int (iI vx)]), (xq, aI g 2000 f_3)] dX8_feed_30 rfl (by omega) (by omega) ef_3 rfl rfl ?_
    refine v_aload_n fx 0 dX8_feed_31 rfl rfl ?_
    refine v_dup fx dX8_feed_32 rfl rfl ?_
    refine v_get fx 0 17 inX8 k1013 dX8_feed_33 rfl rfl (by decide) rfl rfl rfl ?_
    refine v_iconst fx dX8_feed_36 rfl ?_
    refine v_iadd fx (ve + 1) dX8_feed_37 (by rfl) rfl ?_
    refine v_put fx 0 17 [(h0, ob 8 [.ref xa, .ref xb, .ref xc, .ref xd, .ref xe, .ref xf, .ref xg, .int (iI 0), .int (iI vk), .int (iI vw), .ref xm, .ref xv, .int (iI vg), .ref xw, .int (iI vb), .int (iI vi), .ref xq, .int (iI (ve + 1)), .int (iI vf), .int (iI vu), .int (iI vl), .ref xr, .ref xh, .ref xo, .ref xp, .int (iI vr), .int (iI va), .int (iI vt), .int (iI vm), .int (iI vd), .int (iI vx)]), (xq, aI g 2000 f_3)] inX8 tyX8_ok nmX8 k1013 dX8_feed_38 rfl rfl (by decide) rfl rfl rfl rfl (nl rfl) rfl rfl ?_
    refine v_iconst fx dX8_feed_41 rfl ?_
    exact v_zret fx [(h0, ob 8 [.ref xa, .ref xb, .ref xc, .ref xd, .ref xe, .ref xf, .ref xg, .int (iI 0), .int (iI vk), .int (iI vw), .ref xm, .ref xv, .int (iI vg), .ref xw, .int (iI vb), .int (iI vi), .ref xq, .int (iI (ve + 1)), .int (iI vf), .int (iI vu), .int (iI vl), .ref xr, .ref xh, .ref xo, .ref xp, .int (iI vr), .int (iI va), .int (iI vt), .int (iI vm), .int (iI vd), .int (iI vx)]), (xq, aI g 2000 f_3)] [0, 1] hr dX8_feed_42 (by first | rfl | exact nar_z _ (by omega)) rfl rfl (nl rfl) (nl rfl) ⟨1, (ve + 1), f_3, rfl, rfl, (by first | omega | rfl | assumption)⟩
  ·
    refine v_iconst fx dX8_feed_15 rfl ?_
    exact v_zret fx [(h0, ob 8 [.ref xa, .ref xb, .ref xc, .ref xd, .ref xe, .ref xf, .ref xg, .int (iI 0), .int (iI vk), .int (iI vw), .ref xm, .ref xv, .int (iI vg), .ref xw, .int (iI vb), .int (iI vi), .ref xq, .int (iI ve), .int (iI vf), .int (iI vu), .int (iI vl), .ref xr, .ref xh, .ref xo, .ref xp, .int (iI vr), .int (iI va), .int (iI vt), .int (iI vm), .int (iI vd), .int (iI vx)]), (xq, aI g 2000 f)] [0, 1] hr dX8_feed_16 (by first | rfl | exact nar_z _ (by omega)) rfl rfl (nl rfl) (nl rfl) ⟨0, ve, f, rfl, rfl, (by first | omega | rfl | assumption)⟩
theorem dX8_decode_0 : decode cX8_decode 0 = .ok (.aload_n 0, 1) := by decide +kernel
theorem dX8_decode_1 : decode cX8_decode 1 = .ok (.iconst 0, 1) := by decide +kernel
theorem dX8_decode_2 : decode cX8_decode 2 = .ok (.putfield 66, 3) := by decide +kernel
theorem dX8_decode_5 : decode cX8_decode 5 = .ok (.aload_n 0, 1) := by decide +kernel
theorem dX8_decode_6 : decode cX8_decode 6 = .ok (.iconst 0, 1) := by decide +kernel
theorem dX8_decode_7 : decode cX8_decode 7 = .ok (.putfield 184, 3) := by decide +kernel
theorem dX8_decode_10 : decode cX8_decode 10 = .ok (.aload_n 0, 1) := by decide +kernel
theorem dX8_decode_11 : decode cX8_decode 11 = .ok (.iconst 0, 1) := by decide +kernel
theorem dX8_decode_12 : decode cX8_decode 12 = .ok (.putfield 157, 3) := by decide +kernel
theorem dX8_decode_15 : decode cX8_decode 15 = .ok (.aload_n 0, 1) := by decide +kernel
theorem dX8_decode_16 : decode cX8_decode 16 = .ok (.aload_n 0, 1) := by decide +kernel
theorem dX8_decode_17 : decode cX8_decode 17 = .ok (.getfield 123, 3) := by decide +kernel
theorem dX8_decode_20 : decode cX8_decode 20 = .ok (.ifCond .le 7, 3) := by decide +kernel
theorem dX8_decode_27 : decode cX8_decode 27 = .ok (.iconst 0, 1) := by decide +kernel
theorem dX8_decode_28 : decode cX8_decode 28 = .ok (.putfield 126, 3) := by decide +kernel
theorem dX8_decode_31 : decode cX8_decode 31 = .ok (.aload_n 0, 1) := by decide +kernel
theorem dX8_decode_32 : decode cX8_decode 32 = .ok (.aload_n 0, 1) := by decide +kernel
theorem dX8_decode_33 : decode cX8_decode 33 = .ok (.getfield 126, 3) := by decide +kernel
theorem dX8_decode_36 : decode cX8_decode 36 = .ok (.ifCond .eq 13, 3) := by decide +kernel
theorem dX8_decode_49 : decode cX8_decode 49 = .ok (.aload_n 0, 1) := by decide +kernel
theorem dX8_decode_50 : decode cX8_decode 50 = .ok (.getfield 108, 3) := by decide +kernel
theorem dX8_decode_53 : decode cX8_decode 53 = .ok (.ifCond .eq 19, 3) := by decide +kernel
theorem dX8_decode_72 : decode cX8_decode 72 = .ok (.iconst 0, 1) := by decide +kernel
theorem dX8_decode_73 : decode cX8_decode 73 = .ok (.putfield 129, 3) := by decide +kernel
theorem dX8_decode_76 : decode cX8_decode 76 = .ok (.aload_n 0, 1) := by decide +kernel
theorem dX8_decode_77 : decode cX8_decode 77 = .ok (.getfield 129, 3) := by decide +kernel
theorem dX8_decode_80 : decode cX8_decode 80 = .ok (.ifCond .ne 5, 3) := by decide +kernel
theorem dX8_decode_83 : decode cX8_decode 83 = .ok (.iconst (-1), 1) := by decide +kernel
theorem dX8_decode_84 : decode cX8_decode 84 = .ok (.ireturn, 1) := by decide +kernel
abbrev po_c_X8_decode_0 (g : GG) (h0 : Nat) (xa : Nat) (xb : Nat) (xc : Nat) (xd : Nat) (xe : Nat) (xf : Nat) (xg : Nat) (xm : Nat) (xv : Nat) (xw : Nat) (xq : Nat) (xr : Nat) (xh : Nat) (xo : Nat) (xp : Nat) (vc : Int) (vk : Int) (vw : Int) (vg : Int) (vb : Int) (vf : Int) (vu : Int) (vl : Int) (vr : Int) (va : Int) (vt : Int) (vm : Int) (vd : Int) (vx : Int) : Option Value → va_W → Prop := fun v8 w8 => v8 = some (.int (iI (-1))) ∧ w8 = [(h0, ob 8 [.ref xa, .ref xb, .ref xc, .ref xd, .ref xe, .ref xf, .ref xg, .int (iI 0), .int (iI vk), .int (iI vw), .ref xm, .ref xv, .int (iI vg), .ref xw, .int (iI vb), .int (iI 0), .ref xq, .int (iI 0), .int (iI vf), .int (iI vu), .int (iI vl), .ref xr, .ref xh, .ref xo, .ref xp, .int (iI 0), .int (iI va), .int (iI 0), .int (iI 0), .int (iI vd), .int (iI 0)])]
set_option maxHeartbeats 4000000 in
set_option maxRecDepth 100000 in
theorem c_X8_decode_0 (l : Launch) (g : GG) (h0 : Nat) (xa : Nat) (xb : Nat) (xc : Nat) (xd : Nat) (xe : Nat) (xf : Nat) (xg : Nat) (xm : Nat) (xv : Nat) (xw : Nat) (xq : Nat) (xr : Nat) (xh : Nat) (xo : Nat) (xp : Nat) (vc : Int) (vk : Int) (vw : Int) (vg : Int) (vb : Int) (vf : Int) (vu : Int) (vl : Int) (vr : Int) (va : Int) (vt : Int) (vm : Int) (vd : Int) (vx : Int) : Ct l g yX8_decode (wM yX8_decode cX8_decode 2 (some .int)) (rmD 0 0 0) [.ref h0] [(h0, ob 8 [.ref xa, .ref xb, .ref xc, .ref xd, .ref xe, .ref xf, .ref xg, .int (iI vc), .int (iI vk), .int (iI vw), .ref xm, .ref xv, .int (iI vg), .ref xw, .int (iI vb), .int (iI 0), .ref xq, .int (iI 0), .int (iI vf), .int (iI vu), .int (iI vl), .ref xr, .ref xh, .ref xo, .ref xp, .int (iI vr), .int (iI va), .int (iI vt), .int (iI vm), .int (iI vd), .int (iI vx)])] (po_c_X8_decode_0 g h0 xa xb xc xd xe xf xg xm xv xw xq xr xh xo xp vc vk vw vg vb vf vu vl vr va vt vm vd vx) := by
  refine Ct_of (by decide +kernel) (Nat.le_of_ble_eq_true rfl) ?_
  intro p9 e9 s9 m9 ag9 bl9 mt9 c9 A9 fx hr hnm
  refine v_aload_n fx 0 dX8_decode_0 rfl rfl ?_
  refine v_iconst fx dX8_decode_1 rfl ?_
  refine v_put fx 0 7 [(h0, ob 8 [.ref xa, .ref xb, .ref xc, .ref xd, .ref xe, .ref xf, .ref xg, .int (iI 0), .int (iI vk), .int (iI vw), .ref xm, .ref xv, .int (iI vg), .ref xw, .int (iI vb), .int (iI 0), .ref xq, .int (iI 0), .int (iI vf), .int (iI vu), .int (iI vl), .ref xr, .ref xh, .ref xo, .ref xp, .int (iI vr), .int (iI va), .int (iI vt), .int (iI vm), .int (iI vd), .int (iI vx)])] inX8 tyX8_ok nmX8 k1003 dX8_decode_2 rfl rfl (by decide) rfl rfl rfl rfl (nl rfl) rfl rfl ?_
  refine v_aload_n fx 0 dX8_decode_5 rfl rfl ?_
  refine v_iconst fx dX8_decode_6 rfl ?_
  refine v_put fx 0 25 [(h0, ob 8 [.ref xa, .ref xb, .ref xc, .ref xd, .ref xe, .ref xf, .ref xg, .int (iI 0), .int (iI vk), .int (iI vw), .ref xm, .ref xv, .int (iI vg), .ref xw, .int (iI vb), .int (iI 0), .ref xq, .int (iI 0), .int (iI vf), .int (iI vu), .int (iI vl), .ref xr, .ref xh, .ref xo, .ref xp, .int (iI 0), .int (iI va), .int (iI vt), .int (iI vm), .int (iI vd), .int (iI vx)])] inX8 tyX8_ok nmX8 k1021 dX8_decode_7 rfl rfl (by decide) rfl rfl rfl rfl (nl rfl) rfl rfl ?_
  refine v_aload_n fx 0 dX8_decode_10 rfl rfl ?_
  refine v_iconst fx dX8_decode_11 rfl ?_
  refine v_put fx 0 30 [(h0, ob 8 [.ref xa, .ref xb, .ref xc, .ref xd, .ref xe, .ref xf, .ref xg, .int (iI 0), .int (iI vk), .int (iI vw), .ref xm, .ref xv, .int (iI vg), .ref xw, .int (iI vb), .int (iI 0), .ref xq, .int (iI 0), .int (iI vf), .int (iI vu), .int (iI vl), .ref xr, .ref xh, .ref xo, .ref xp, .int (iI 0), .int (iI va), .int (iI vt), .int (iI vm), .int (iI vd), .int (iI 0)])] inX8 tyX8_ok nmX8 k1026 dX8_decode_12 rfl rfl (by decide) rfl rfl rfl rfl (nl rfl) rfl rfl ?_
  refine v_aload_n fx 0 dX8_decode_15 rfl rfl ?_
  refine v_aload_n fx 0 dX8_decode_16 rfl rfl ?_
  refine v_get fx 0 17 inX8 k1013 dX8_decode_17 rfl rfl (by decide) rfl rfl rfl ?_
  refine v_if_le fx 27 dX8_decode_20 (by decide) rfl (by omega) (fun h_1 => ?_) (fun h0 => absurd h0 (by omega))
  refine v_iconst fx dX8_decode_27 rfl ?_
  refine v_put fx 0 28 [(h0, ob 8 [.ref xa, .ref xb, .ref xc, .ref xd, .ref xe, .ref xf, .ref xg, .int (iI 0), .int (iI vk), .int (iI vw), .ref xm, .ref xv, .int (iI vg), .ref xw, .int (iI vb), .int (iI 0), .ref xq, .int (iI 0), .int (iI vf), .int (iI vu), .int (iI vl), .ref xr, .ref xh, .ref xo, .ref xp, .int (iI 0), .int (iI va), .int (iI vt), .int (iI 0), .int (iI vd), .int (iI 0)])] inX8 tyX8_ok nmX8 k1024 dX8_decode_28 rfl rfl (by decide) rfl rfl rfl rfl (nl rfl) rfl rfl ?_
  refine v_aload_n fx 0 dX8_decode_31 rfl rfl ?_
  refine v_aload_n fx 0 dX8_decode_32 rfl rfl ?_
  refine v_get fx 0 28 inX8 k1024 dX8_decode_33 rfl rfl (by decide) rfl rfl rfl ?_
  refine v_if_eq fx 49 dX8_decode_36 (by decide) rfl (by omega) (fun h_2 => ?_) (fun h0 => absurd h0 (by omega))
  refine v_aload_n fx 0 dX8_decode_49 rfl rfl ?_
  refine v_get fx 0 15 inX8 k1011 dX8_decode_50 rfl rfl (by decide) rfl rfl rfl ?_
  refine v_if_eq fx 72 dX8_decode_53 (by decide) rfl (by omega) (fun h_3 => ?_) (fun h0 => absurd h0 (by omega))
  refine v_iconst fx dX8_decode_72 rfl ?_
  refine v_put fx 0 27 [(h0, ob 8 [.ref xa, .ref xb, .ref xc, .ref xd, .ref xe, .ref xf, .ref xg, .int (iI 0), .int (iI vk), .int (iI vw), .ref xm, .ref xv, .int (iI vg), .ref xw, .int (iI vb), .int (iI 0), .ref xq, .int (iI 0), .int (iI vf), .int (iI vu), .int (iI vl), .ref xr, .ref xh, .ref xo, .ref xp, .int (iI 0), .int (iI va), .int (iI 0), .int (iI 0), .int (iI vd), .int (iI 0)])] inX8 tyX8_ok nmX8 k1023 dX8_decode_73 rfl rfl (by decide) rfl rfl rfl rfl (nl rfl) rfl rfl ?_
  refine v_aload_n fx 0 dX8_decode_76 rfl rfl ?_
  refine v_get fx 0 27 inX8 k1023 dX8_decode_77 rfl rfl (by decide) rfl rfl rfl ?_
  refine v_if_ne fx 85 dX8_decode_80 (by decide) rfl (by omega) (fun h0 => absurd h0 (by omega)) (fun h_4 => ?_)
  refine v_iconst fx dX8_decode_83 rfl ?_
  exact v_iret fx [(h0, ob 8 [.ref xa, .ref xb, .ref xc, .ref xd, .ref xe, .ref xf, .ref xg, .int (iI 0), .int (iI vk), .int (iI vw), .ref xm, .ref xv, .int (iI vg), .ref xw, .int (iI vb), .int (iI 0), .ref xq, .int (iI 0), .int (iI vf), .int (iI vu), .int (iI vl), .ref xr, .ref xh, .ref xo, .ref xp, .int (iI 0), .int (iI va), .int (iI 0), .int (iI 0), .int (iI vd), .int (iI 0)])] [0] hr dX8_decode_84 rfl rfl (nl rfl) (nl rfl) ⟨rfl, rfl⟩
theorem dX8_at_0 : decode cX8_at 0 = .ok (.iload_n 2, 1) := by decide +kernel
theorem dX8_at_1 : decode cX8_at 1 = .ok (.ifCond .lt 15, 3) := by decide +kernel
theorem dX8_at_4 : decode cX8_at 4 = .ok (.iload_n 2, 1) := by decide +kernel
theorem dX8_at_5 : decode cX8_at 5 = .ok (.aload_n 0, 1) := by decide +kernel
theorem dX8_at_6 : decode cX8_at 6 = .ok (.getfield 184, 3) := by decide +kernel
theorem dX8_at_9 : decode cX8_at 9 = .ok (.if_icmp .ge 7, 3) := by decide +kernel
theorem dX8_at_16 : decode cX8_at 16 = .ok (.iconst 0, 1) := by decide +kernel
theorem dX8_at_17 : decode cX8_at 17 = .ok (.istore_n 3, 1) := by decide +kernel
theorem dX8_at_18 : decode cX8_at 18 = .ok (.aload_n 0, 1) := by decide +kernel
theorem dX8_at_19 : decode cX8_at 19 = .ok (.iload_n 3, 1) := by decide +kernel
theorem dX8_at_20 : decode cX8_at 20 = .ok (.ifCond .eq 19, 3) := by decide +kernel
theorem dX8_at_39 : decode cX8_at 39 = .ok (.iconst 0, 1) := by decide +kernel
theorem dX8_at_40 : decode cX8_at 40 = .ok (.putfield 66, 3) := by decide +kernel
theorem dX8_at_43 : decode cX8_at 43 = .ok (.iload_n 3, 1) := by decide +kernel
theorem dX8_at_44 : decode cX8_at 44 = .ok (.ifCond .eq 29, 3) := by decide +kernel
theorem dX8_at_73 : decode cX8_at 73 = .ok (.iconst 0, 1) := by decide +kernel
theorem dX8_at_74 : decode cX8_at 74 = .ok (.ireturn, 1) := by decide +kernel
abbrev po_c_X8_at_0 (g : GG) (h0 : Nat) (xa : Nat) (xb : Nat) (xc : Nat) (xd : Nat) (xe : Nat) (xf : Nat) (xg : Nat) (xm : Nat) (xv : Nat) (xw : Nat) (xq : Nat) (xr : Nat) (xh : Nat) (xo : Nat) (xp : Nat) (vc : Int) (vk : Int) (vw : Int) (vg : Int) (vb : Int) (vi : Int) (ve : Int) (vf : Int) (vu : Int) (vl : Int) (va : Int) (vt : Int) (vm : Int) (vd : Int) (vx : Int) (x : Int) (y : Int) : Option Value → va_W → Prop := fun v8 w8 => v8 = some (.int (iI 0)) ∧ w8 = [(h0, ob 8 [.ref xa, .ref xb, .ref xc, .ref xd, .ref xe, .ref xf, .ref xg, .int (iI 0), .int (iI vk), .int (iI vw), .ref xm, .ref xv, .int (iI vg), .ref xw, .int (iI vb), .int (iI vi), .ref xq, .int (iI ve), .int (iI vf), .int (iI vu), .int (iI vl), .ref xr, .ref xh, .ref xo, .ref xp, .int (iI 0), .int (iI va), .int (iI vt), .int (iI vm), .int (iI vd), .int (iI vx)])]
set_option maxHeartbeats 4000000 in
set_option maxRecDepth 100000 in
theorem c_X8_at_0 (l : Launch) (g : GG) (h0 : Nat) (xa : Nat) (xb : Nat) (xc : Nat) (xd : Nat) (xe : Nat) (xf : Nat) (xg : Nat) (xm : Nat) (xv : Nat) (xw : Nat) (xq : Nat) (xr : Nat) (xh : Nat) (xo : Nat) (xp : Nat) (vc : Int) (vk : Int) (vw : Int) (vg : Int) (vb : Int) (vi : Int) (ve : Int) (vf : Int) (vu : Int) (vl : Int) (va : Int) (vt : Int) (vm : Int) (vd : Int) (vx : Int) (x : Int) (y : Int) (hp0 : -2147483648 ≤ y ∧ y < 2147483648) : Ct l g yX8_at (wM yX8_at cX8_at 4 (some .boolean)) (rmD 0 0 0) [.ref h0, .int (iI x), .int (iI y)] [(h0, ob 8 [.ref xa, .ref xb, .ref xc, .ref xd, .ref xe, .ref xf, .ref xg, .int (iI vc), .int (iI vk), .int (iI vw), .ref xm, .ref xv, .int (iI vg), .ref xw, .int (iI vb), .int (iI vi), .ref xq, .int (iI ve), .int (iI vf), .int (iI vu), .int (iI vl), .ref xr, .ref xh, .ref xo, .ref xp, .int (iI 0), .int (iI va), .int (iI vt), .int (iI vm), .int (iI vd), .int (iI vx)])] (po_c_X8_at_0 g h0 xa xb xc xd xe xf xg xm xv xw xq xr xh xo xp vc vk vw vg vb vi ve vf vu vl va vt vm vd vx x y) := by
  refine Ct_of (by decide +kernel) (Nat.le_of_ble_eq_true rfl) ?_
  intro p9 e9 s9 m9 ag9 bl9 mt9 c9 A9 fx hr hnm
  refine v_iload_n fx 2 dX8_at_0 rfl rfl ?_
  refine v_if_lt fx 16 dX8_at_1 (by decide) rfl (by omega) (fun h_1 => ?_) (fun h_1 => ?_)
  ·
    refine v_iconst fx dX8_at_16 rfl ?_
    refine v_istore_n fx [(3, .int (iI 0)), (0, .ref h0), (1, .int (iI x)), (2, .int (iI y))] dX8_at_17 (by decide) rfl rfl ?_
    refine v_aload_n fx 1 dX8_at_18 rfl rfl ?_
    refine v_iload_n fx 0 dX8_at_19 rfl rfl ?_
    refine v_if_eq fx 39 dX8_at_20 (by decide) rfl (by omega) (fun h_2 => ?_) (fun h0 => absurd h0 (by omega))
    refine v_iconst fx dX8_at_39 rfl ?_
    refine v_put fx 0 7 [(h0, ob 8 [.ref xa, .ref xb, .ref xc, .ref xd, .ref xe, .ref xf, .ref xg, .int (iI 0), .int (iI vk), .int (iI vw), .ref xm, .ref xv, .int (iI vg), .ref xw, .int (iI vb), .int (iI vi), .ref xq, .int (iI ve), .int (iI vf), .int (iI vu), .int (iI vl), .ref xr, .ref xh, .ref xo, .ref xp, .int (iI 0), .int (iI va), .int (iI vt), .int (iI vm), .int (iI vd), .int (iI vx)])] inX8 tyX8_ok nmX8 k1003 dX8_at_40 rfl rfl (by decide) rfl rfl rfl rfl (nl rfl) rfl rfl ?_
    refine v_iload_n fx 0 dX8_at_43 rfl rfl ?_
    refine v_if_eq fx 73 dX8_at_44 (by decide) rfl (by omega) (fun h_3 => ?_) (fun h0 => absurd h0 (by omega))
    refine v_iconst fx dX8_at_73 rfl ?_
    exact v_zret fx [(h0, ob 8 [.ref xa, .ref xb, .ref xc, .ref xd, .ref xe, .ref xf, .ref xg, .int (iI 0), .int (iI vk), .int (iI vw), .ref xm, .ref xv, .int (iI vg), .ref xw, .int (iI vb), .int (iI vi), .ref xq, .int (iI ve), .int (iI vf), .int (iI vu), .int (iI vl), .ref xr, .ref xh, .ref xo, .ref xp, .int (iI 0), .int (iI va), .int (iI vt), .int (iI vm), .int (iI vd), .int (iI vx)])] [0] hr dX8_at_74 (by first | rfl | exact nar_z _ (by omega)) rfl rfl (nl rfl) (nl rfl) ⟨rfl, rfl⟩
  ·
    refine v_iload_n fx 2 dX8_at_4 rfl rfl ?_
    refine v_aload_n fx 0 dX8_at_5 rfl rfl ?_
    refine v_get fx 0 25 inX8 k1021 dX8_at_6 rfl rfl (by decide) rfl rfl rfl ?_
    refine v_icmp_ge fx 16 dX8_at_9 (by decide) rfl (by omega) (by omega) (fun h_4 => ?_) (fun h0 => absurd h0 (by omega))
    refine v_iconst fx dX8_at_16 rfl ?_
    refine v_istore_n fx [(3, .int (iI 0)), (0, .ref h0), (1, .int (iI x)), (2, .int (iI y))] dX8_at_17 (by decide) rfl rfl ?_
    refine v_aload_n fx 1 dX8_at_18 rfl rfl ?_
    refine v_iload_n fx 0 dX8_at_19 rfl rfl ?_
    refine v_if_eq fx 39 dX8_at_20 (by decide) rfl (by omega) (fun h_5 => ?_) (fun h0 => absurd h0 (by omega))
    refine v_iconst fx dX8_at_39 rfl ?_
    refine v_put fx 0 7 [(h0, ob 8 [.ref xa, .ref xb, .ref xc, .ref xd, .ref xe, .ref xf, .ref xg, .int (iI 0), .int (iI vk), .int (iI vw), .ref xm, .ref xv, .int (iI vg), .ref xw, .int (iI vb), .int (iI vi), .ref xq, .int (iI ve), .int (iI vf), .int (iI vu), .int (iI vl), .ref xr, .ref xh, .ref xo, .ref xp, .int (iI 0), .int (iI va), .int (iI vt), .int (iI vm), .int (iI vd), .int (iI vx)])] inX8 tyX8_ok nmX8 k1003 dX8_at_40 rfl rfl (by decide) rfl rfl rfl rfl (nl rfl) rfl rfl ?_
    refine v_iload_n fx 0 dX8_at_43 rfl rfl ?_
    refine v_if_eq fx 73 dX8_at_44 (by decide) rfl (by omega) (fun h_6 => ?_) (fun h0 => absurd h0 (by omega))
    refine v_iconst fx dX8_at_73 rfl ?_
    exact v_zret fx [(h0, ob 8 [.ref xa, .ref xb, .ref xc, .ref xd, .ref xe, .ref xf, .ref xg, .int (iI 0), .int (iI vk), .int (iI vw), .ref xm, .ref xv, .int (iI vg), .ref xw, .int (iI vb), .int (iI vi), .ref xq, .int (iI ve), .int (iI vf), .int (iI vu), .int (iI vl), .ref xr, .ref xh, .ref xo, .ref xp, .int (iI 0), .int (iI va), .int (iI vt), .int (iI vm), .int (iI vd), .int (iI vx)])] [0] hr dX8_at_74 (by first | rfl | exact nar_z _ (by omega)) rfl rfl (nl rfl) (nl rfl) ⟨rfl, rfl⟩
theorem dX8_damaged_0 : decode cX8_damaged 0 = .ok (.aload_n 0, 1) := by decide +kernel
theorem dX8_damaged_1 : decode cX8_damaged 1 = .ok (.iconst 0, 1) := by decide +kernel
theorem dX8_damaged_2 : decode cX8_damaged 2 = .ok (.putfield 66, 3) := by decide +kernel
theorem dX8_damaged_5 : decode cX8_damaged 5 = .ok (.iload_n 1, 1) := by decide +kernel
theorem dX8_damaged_6 : decode cX8_damaged 6 = .ok (.ifCond .lt 24, 3) := by decide +kernel
theorem dX8_damaged_9 : decode cX8_damaged 9 = .ok (.iload_n 1, 1) := by decide +kernel
theorem dX8_damaged_10 : decode cX8_damaged 10 = .ok (.aload_n 0, 1) := by decide +kernel
theorem dX8_damaged_11 : decode cX8_damaged 11 = .ok (.getfield 184, 3) := by decide +kernel
theorem dX8_damaged_14 : decode cX8_damaged 14 = .ok (.if_icmp .ge 16, 3) := by decide +kernel
theorem dX8_damaged_30 : decode cX8_damaged 30 = .ok (.iconst 0, 1) := by decide +kernel
theorem dX8_damaged_31 : decode cX8_damaged 31 = .ok (.ireturn, 1) := by decide +kernel
abbrev po_c_X8_damaged_0 (g : GG) (h0 : Nat) (xa : Nat) (xb : Nat) (xc : Nat) (xd : Nat) (xe : Nat) (xf : Nat) (xg : Nat) (xm : Nat) (xv : Nat) (xw : Nat) (xq : Nat) (xr : Nat) (xh : Nat) (xo : Nat) (xp : Nat) (vc : Int) (vk : Int) (vw : Int) (vg : Int) (vb : Int) (vi : Int) (ve : Int) (vf : Int) (vu : Int) (vl : Int) (va : Int) (vt : Int) (vm : Int) (vd : Int) (vx : Int) (y : Int) : Option Value → va_W → Prop := fun v8 w8 => v8 = some (.int (iI 0)) ∧ w8 = [(h0, ob 8 [.ref xa, .ref xb, .ref xc, .ref xd, .ref xe, .ref xf, .ref xg, .int (iI 0), .int (iI vk), .int (iI vw), .ref xm, .ref xv, .int (iI vg), .ref xw, .int (iI vb), .int (iI vi), .ref xq, .int (iI ve), .int (iI vf), .int (iI vu), .int (iI vl), .ref xr, .ref xh, .ref xo, .ref xp, .int (iI 0), .int (iI va), .int (iI vt), .int (iI vm), .int (iI vd), .int (iI vx)])]
set_option maxHeartbeats 4000000 in
set_option maxRecDepth 100000 in
theorem c_X8_damaged_0 (l : Launch) (g : GG) (h0 : Nat) (xa : Nat) (xb : Nat) (xc : Nat) (xd : Nat) (xe : Nat) (xf : Nat) (xg : Nat) (xm : Nat) (xv : Nat) (xw : Nat) (xq : Nat) (xr : Nat) (xh : Nat) (xo : Nat) (xp : Nat) (vc : Int) (vk : Int) (vw : Int) (vg : Int) (vb : Int) (vi : Int) (ve : Int) (vf : Int) (vu : Int) (vl : Int) (va : Int) (vt : Int) (vm : Int) (vd : Int) (vx : Int) (y : Int) (hp0 : -2147483648 ≤ y ∧ y < 2147483648) : Ct l g yX8_damaged (wM yX8_damaged cX8_damaged 2 (some .boolean)) (rmD 0 0 0) [.ref h0, .int (iI y)] [(h0, ob 8 [.ref xa, .ref xb, .ref xc, .ref xd, .ref xe, .ref xf, .ref xg, .int (iI vc), .int (iI vk), .int (iI vw), .ref xm, .ref xv, .int (iI vg), .ref xw, .int (iI vb), .int (iI vi), .ref xq, .int (iI ve), .int (iI vf), .int (iI vu), .int (iI vl), .ref xr, .ref xh, .ref xo, .ref xp, .int (iI 0), .int (iI va), .int (iI vt), .int (iI vm), .int (iI vd), .int (iI vx)])] (po_c_X8_damaged_0 g h0 xa xb xc xd xe xf xg xm xv xw xq xr xh xo xp vc vk vw vg vb vi ve vf vu vl va vt vm vd vx y) := by
  refine Ct_of (by decide +kernel) (Nat.le_of_ble_eq_true rfl) ?_
  intro p9 e9 s9 m9 ag9 bl9 mt9 c9 A9 fx hr hnm
  refine v_aload_n fx 0 dX8_damaged_0 rfl rfl ?_
  refine v_iconst fx dX8_damaged_1 rfl ?_
  refine v_put fx 0 7 [(h0, ob 8 [.ref xa, .ref xb, .ref xc, .ref xd, .ref xe, .ref xf, .ref xg, .int (iI 0), .int (iI vk), .int (iI vw), .ref xm, .ref xv, .int (iI vg), .ref xw, .int (iI vb), .int (iI vi), .ref xq, .int (iI ve), .int (iI vf), .int (iI vu), .int (iI vl), .ref xr, .ref xh, .ref xo, .ref xp, .int (iI 0), .int (iI va), .int (iI vt), .int (iI vm), .int (iI vd), .int (iI vx)])] inX8 tyX8_ok nmX8 k1003 dX8_damaged_2 rfl rfl (by decide) rfl rfl rfl rfl (nl rfl) rfl rfl ?_
  refine v_iload_n fx 1 dX8_damaged_5 rfl rfl ?_
  refine v_if_lt fx 30 dX8_damaged_6 (by decide) rfl (by omega) (fun h_1 => ?_) (fun h_1 => ?_)
  ·
    refine v_iconst fx dX8_damaged_30 rfl ?_
    exact v_zret fx [(h0, ob 8 [.ref xa, .ref xb, .ref xc, .ref xd, .ref xe, .ref xf, .ref xg, .int (iI 0), .int (iI vk), .int (iI vw), .ref xm, .ref xv, .int (iI vg), .ref xw, .int (iI vb), .int (iI vi), .ref xq, .int (iI ve), .int (iI vf), .int (iI vu), .int (iI vl), .ref xr, .ref xh, .ref xo, .ref xp, .int (iI 0), .int (iI va), .int (iI vt), .int (iI vm), .int (iI vd), .int (iI vx)])] [0] hr dX8_damaged_31 (by first | rfl | exact nar_z _ (by omega)) rfl rfl (nl rfl) (nl rfl) ⟨rfl, rfl⟩
  ·
    refine v_iload_n fx 1 dX8_damaged_9 rfl rfl ?_
    refine v_aload_n fx 0 dX8_damaged_10 rfl rfl ?_
    refine v_get fx 0 25 inX8 k1021 dX8_damaged_11 rfl rfl (by decide) rfl rfl rfl ?_
    refine v_icmp_ge fx 30 dX8_damaged_14 (by decide) rfl (by omega) (by omega) (fun h_2 => ?_) (fun h0 => absurd h0 (by omega))
    refine v_iconst fx dX8_damaged_30 rfl ?_
    exact v_zret fx [(h0, ob 8 [.ref xa, .ref xb, .ref xc, .ref xd, .ref xe, .ref xf, .ref xg, .int (iI 0), .int (iI vk), .int (iI vw), .ref xm, .ref xv, .int (iI vg), .ref xw, .int (iI vb), .int (iI vi), .ref xq, .int (iI ve), .int (iI vf), .int (iI vu), .int (iI vl), .ref xr, .ref xh, .ref xo, .ref xp, .int (iI 0), .int (iI va), .int (iI vt), .int (iI vm), .int (iI vd), .int (iI vx)])] [0] hr dX8_damaged_31 (by first | rfl | exact nar_z _ (by omega)) rfl rfl (nl rfl) (nl rfl) ⟨rfl, rfl⟩
theorem dX8_changes_0 : decode cX8_changes 0 = .ok (.aload_n 0, 1) := by decide +kernel
theorem dX8_changes_1 : decode cX8_changes 1 = .ok (.iconst 0, 1) := by decide +kernel
theorem dX8_changes_2 : decode cX8_changes 2 = .ok (.putfield 66, 3) := by decide +kernel
theorem dX8_changes_5 : decode cX8_changes 5 = .ok (.iload_n 1, 1) := by decide +kernel
theorem dX8_changes_6 : decode cX8_changes 6 = .ok (.ifCond .lt 15, 3) := by decide +kernel
theorem dX8_changes_9 : decode cX8_changes 9 = .ok (.iload_n 1, 1) := by decide +kernel
theorem dX8_changes_10 : decode cX8_changes 10 = .ok (.aload_n 0, 1) := by decide +kernel
theorem dX8_changes_11 : decode cX8_changes 11 = .ok (.getfield 184, 3) := by decide +kernel
theorem dX8_changes_14 : decode cX8_changes 14 = .ok (.if_icmp .ge 7, 3) := by decide +kernel
theorem dX8_changes_21 : decode cX8_changes 21 = .ok (.iconst (-1), 1) := by decide +kernel
theorem dX8_changes_22 : decode cX8_changes 22 = .ok (.ireturn, 1) := by decide +kernel
abbrev po_c_X8_changes_0 (g : GG) (h0 : Nat) (xa : Nat) (xb : Nat) (xc : Nat) (xd : Nat) (xe : Nat) (xf : Nat) (xg : Nat) (xm : Nat) (xv : Nat) (xw : Nat) (xq : Nat) (xr : Nat) (xh : Nat) (xo : Nat) (xp : Nat) (vc : Int) (vk : Int) (vw : Int) (vg : Int) (vb : Int) (vi : Int) (ve : Int) (vf : Int) (vu : Int) (vl : Int) (va : Int) (vt : Int) (vm : Int) (vd : Int) (vx : Int) (y : Int) (x : Int) : Option Value → va_W → Prop := fun v8 w8 => v8 = some (.int (iI (-1))) ∧ w8 = [(h0, ob 8 [.ref xa, .ref xb, .ref xc, .ref xd, .ref xe, .ref xf, .ref xg, .int (iI 0), .int (iI vk), .int (iI vw), .ref xm, .ref xv, .int (iI vg), .ref xw, .int (iI vb), .int (iI vi), .ref xq, .int (iI ve), .int (iI vf), .int (iI vu), .int (iI vl), .ref xr, .ref xh, .ref xo, .ref xp, .int (iI 0), .int (iI va), .int (iI vt), .int (iI vm), .int (iI vd), .int (iI vx)])]
set_option maxHeartbeats 4000000 in
set_option maxRecDepth 100000 in
theorem c_X8_changes_0 (l : Launch) (g : GG) (h0 : Nat) (xa : Nat) (xb : Nat) (xc : Nat) (xd : Nat) (xe : Nat) (xf : Nat) (xg : Nat) (xm : Nat) (xv : Nat) (xw : Nat) (xq : Nat) (xr : Nat) (xh : Nat) (xo : Nat) (xp : Nat) (vc : Int) (vk : Int) (vw : Int) (vg : Int) (vb : Int) (vi : Int) (ve : Int) (vf : Int) (vu : Int) (vl : Int) (va : Int) (vt : Int) (vm : Int) (vd : Int) (vx : Int) (y : Int) (x : Int) (hp0 : -2147483648 ≤ y ∧ y < 2147483648) : Ct l g yX8_changes (wM yX8_changes cX8_changes 5 (some .int)) (rmD 0 0 0) [.ref h0, .int (iI y), .int (iI x)] [(h0, ob 8 [.ref xa, .ref xb, .ref xc, .ref xd, .ref xe, .ref xf, .ref xg, .int (iI vc), .int (iI vk), .int (iI vw), .ref xm, .ref xv, .int (iI vg), .ref xw, .int (iI vb), .int (iI vi), .ref xq, .int (iI ve), .int (iI vf), .int (iI vu), .int (iI vl), .ref xr, .ref xh, .ref xo, .ref xp, .int (iI 0), .int (iI va), .int (iI vt), .int (iI vm), .int (iI vd), .int (iI vx)])] (po_c_X8_changes_0 g h0 xa xb xc xd xe xf xg xm xv xw xq xr xh xo xp vc vk vw vg vb vi ve vf vu vl va vt vm vd vx y x) := by
  refine Ct_of (by decide +kernel) (Nat.le_of_ble_eq_true rfl) ?_
  intro p9 e9 s9 m9 ag9 bl9 mt9 c9 A9 fx hr hnm
  refine v_aload_n fx 0 dX8_changes_0 rfl rfl ?_
  refine v_iconst fx dX8_changes_1 rfl ?_
  refine v_put fx 0 7 [(h0, ob 8 [.ref xa, .ref xb, .ref xc, .ref xd, .ref xe, .ref xf, .ref xg, .int (iI 0), .int (iI vk), .int (iI vw), .ref xm, .ref xv, .int (iI vg), .ref xw, .int (iI vb), .int (iI vi), .ref xq, .int (iI ve), .int (iI vf), .int (iI vu), .int (iI vl), .ref xr, .ref xh, .ref xo, .ref xp, .int (iI 0), .int (iI va), .int (iI vt), .int (iI vm), .int (iI vd), .int (iI vx)])] inX8 tyX8_ok nmX8 k1003 dX8_changes_2 rfl rfl (by decide) rfl rfl rfl rfl (nl rfl) rfl rfl ?_
  refine v_iload_n fx 1 dX8_changes_5 rfl rfl ?_
  refine v_if_lt fx 21 dX8_changes_6 (by decide) rfl (by omega) (fun h_1 => ?_) (fun h_1 => ?_)
  ·
    refine v_iconst fx dX8_changes_21 rfl ?_
    exact v_iret fx [(h0, ob 8 [.ref xa, .ref xb, .ref xc, .ref xd, .ref xe, .ref xf, .ref xg, .int (iI 0), .int (iI vk), .int (iI vw), .ref xm, .ref xv, .int (iI vg), .ref xw, .int (iI vb), .int (iI vi), .ref xq, .int (iI ve), .int (iI vf), .int (iI vu), .int (iI vl), .ref xr, .ref xh, .ref xo, .ref xp, .int (iI 0), .int (iI va), .int (iI vt), .int (iI vm), .int (iI vd), .int (iI vx)])] [0] hr dX8_changes_22 rfl rfl (nl rfl) (nl rfl) ⟨rfl, rfl⟩
  ·
    refine v_iload_n fx 1 dX8_changes_9 rfl rfl ?_
    refine v_aload_n fx 0 dX8_changes_10 rfl rfl ?_
    refine v_get fx 0 25 inX8 k1021 dX8_changes_11 rfl rfl (by decide) rfl rfl rfl ?_
    refine v_icmp_ge fx 21 dX8_changes_14 (by decide) rfl (by omega) (by omega) (fun h_2 => ?_) (fun h0 => absurd h0 (by omega))
    refine v_iconst fx dX8_changes_21 rfl ?_
    exact v_iret fx [(h0, ob 8 [.ref xa, .ref xb, .ref xc, .ref xd, .ref xe, .ref xf, .ref xg, .int (iI 0), .int (iI vk), .int (iI vw), .ref xm, .ref xv, .int (iI vg), .ref xw, .int (iI vb), .int (iI vi), .ref xq, .int (iI ve), .int (iI vf), .int (iI vu), .int (iI vl), .ref xr, .ref xh, .ref xo, .ref xp, .int (iI 0), .int (iI va), .int (iI vt), .int (iI vm), .int (iI vd), .int (iI vx)])] [0] hr dX8_changes_22 rfl rfl (nl rfl) (nl rfl) ⟨rfl, rfl⟩
theorem dX8_mode_0 : decode cX8_mode 0 = .ok (.aload_n 0, 1) := by decide +kernel
theorem dX8_mode_1 : decode cX8_mode 1 = .ok (.iconst 0, 1) := by decide +kernel
theorem dX8_mode_2 : decode cX8_mode 2 = .ok (.putfield 66, 3) := by decide +kernel
theorem dX8_mode_5 : decode cX8_mode 5 = .ok (.iload_n 1, 1) := by decide +kernel
theorem dX8_mode_6 : decode cX8_mode 6 = .ok (.ifCond .lt 40, 3) := by decide +kernel
theorem dX8_mode_9 : decode cX8_mode 9 = .ok (.iload_n 1, 1) := by decide +kernel
theorem dX8_mode_10 : decode cX8_mode 10 = .ok (.aload_n 0, 1) := by decide +kernel
theorem dX8_mode_11 : decode cX8_mode 11 = .ok (.getfield 184, 3) := by decide +kernel
theorem dX8_mode_14 : decode cX8_mode 14 = .ok (.if_icmp .ge 32, 3) := by decide +kernel
theorem dX8_mode_46 : decode cX8_mode 46 = .ok (.iconst (-1), 1) := by decide +kernel
theorem dX8_mode_47 : decode cX8_mode 47 = .ok (.ireturn, 1) := by decide +kernel
abbrev po_c_X8_mode_0 (g : GG) (h0 : Nat) (xa : Nat) (xb : Nat) (xc : Nat) (xd : Nat) (xe : Nat) (xf : Nat) (xg : Nat) (xm : Nat) (xv : Nat) (xw : Nat) (xq : Nat) (xr : Nat) (xh : Nat) (xo : Nat) (xp : Nat) (vc : Int) (vk : Int) (vw : Int) (vg : Int) (vb : Int) (vi : Int) (ve : Int) (vf : Int) (vu : Int) (vl : Int) (va : Int) (vt : Int) (vm : Int) (vd : Int) (vx : Int) (y : Int) (x : Int) : Option Value → va_W → Prop := fun v8 w8 => v8 = some (.int (iI (-1))) ∧ w8 = [(h0, ob 8 [.ref xa, .ref xb, .ref xc, .ref xd, .ref xe, .ref xf, .ref xg, .int (iI 0), .int (iI vk), .int (iI vw), .ref xm, .ref xv, .int (iI vg), .ref xw, .int (iI vb), .int (iI vi), .ref xq, .int (iI ve), .int (iI vf), .int (iI vu), .int (iI vl), .ref xr, .ref xh, .ref xo, .ref xp, .int (iI 0), .int (iI va), .int (iI vt), .int (iI vm), .int (iI vd), .int (iI vx)])]
set_option maxHeartbeats 4000000 in
set_option maxRecDepth 100000 in
theorem c_X8_mode_0 (l : Launch) (g : GG) (h0 : Nat) (xa : Nat) (xb : Nat) (xc : Nat) (xd : Nat) (xe : Nat) (xf : Nat) (xg : Nat) (xm : Nat) (xv : Nat) (xw : Nat) (xq : Nat) (xr : Nat) (xh : Nat) (xo : Nat) (xp : Nat) (vc : Int) (vk : Int) (vw : Int) (vg : Int) (vb : Int) (vi : Int) (ve : Int) (vf : Int) (vu : Int) (vl : Int) (va : Int) (vt : Int) (vm : Int) (vd : Int) (vx : Int) (y : Int) (x : Int) (hp0 : -2147483648 ≤ y ∧ y < 2147483648) : Ct l g yX8_mode (wM yX8_mode cX8_mode 3 (some .int)) (rmD 0 0 0) [.ref h0, .int (iI y), .int (iI x)] [(h0, ob 8 [.ref xa, .ref xb, .ref xc, .ref xd, .ref xe, .ref xf, .ref xg, .int (iI vc), .int (iI vk), .int (iI vw), .ref xm, .ref xv, .int (iI vg), .ref xw, .int (iI vb), .int (iI vi), .ref xq, .int (iI ve), .int (iI vf), .int (iI vu), .int (iI vl), .ref xr, .ref xh, .ref xo, .ref xp, .int (iI 0), .int (iI va), .int (iI vt), .int (iI vm), .int (iI vd), .int (iI vx)])] (po_c_X8_mode_0 g h0 xa xb xc xd xe xf xg xm xv xw xq xr xh xo xp vc vk vw vg vb vi ve vf vu vl va vt vm vd vx y x) := by
  refine Ct_of (by decide +kernel) (Nat.le_of_ble_eq_true rfl) ?_
  intro p9 e9 s9 m9 ag9 bl9 mt9 c9 A9 fx hr hnm
  refine v_aload_n fx 0 dX8_mode_0 rfl rfl ?_
  refine v_iconst fx dX8_mode_1 rfl ?_
  refine v_put fx 0 7 [(h0, ob 8 [.ref xa, .ref xb, .ref xc, .ref xd, .ref xe, .ref xf, .ref xg, .int (iI 0), .int (iI vk), .int (iI vw), .ref xm, .ref xv, .int (iI vg), .ref xw, .int (iI vb), .int (iI vi), .ref xq, .int (iI ve), .int (iI vf), .int (iI vu), .int (iI vl), .ref xr, .ref xh, .ref xo, .ref xp, .int (iI 0), .int (iI va), .int (iI vt), .int (iI vm), .int (iI vd), .int (iI vx)])] inX8 tyX8_ok nmX8 k1003 dX8_mode_2 rfl rfl (by decide) rfl rfl rfl rfl (nl rfl) rfl rfl ?_
  refine v_iload_n fx 1 dX8_mode_5 rfl rfl ?_
  refine v_if_lt fx 46 dX8_mode_6 (by decide) rfl (by omega) (fun h_1 => ?_) (fun h_1 => ?_)
  ·
    refine v_iconst fx dX8_mode_46 rfl ?_
    exact v_iret fx [(h0, ob 8 [.ref xa, .ref xb, .ref xc, .ref xd, .ref xe, .ref xf, .ref xg, .int (iI 0), .int (iI vk), .int (iI vw), .ref xm, .ref xv, .int (iI vg), .ref xw, .int (iI vb), .int (iI vi), .ref xq, .int (iI ve), .int (iI vf), .int (iI vu), .int (iI vl), .ref xr, .ref xh, .ref xo, .ref xp, .int (iI 0), .int (iI va), .int (iI vt), .int (iI vm), .int (iI vd), .int (iI vx)])] [0] hr dX8_mode_47 rfl rfl (nl rfl) (nl rfl) ⟨rfl, rfl⟩
  ·
    refine v_iload_n fx 1 dX8_mode_9 rfl rfl ?_
    refine v_aload_n fx 0 dX8_mode_10 rfl rfl ?_
    refine v_get fx 0 25 inX8 k1021 dX8_mode_11 rfl rfl (by decide) rfl rfl rfl ?_
    refine v_icmp_ge fx 46 dX8_mode_14 (by decide) rfl (by omega) (by omega) (fun h_2 => ?_) (fun h0 => absurd h0 (by omega))
    refine v_iconst fx dX8_mode_46 rfl ?_
    exact v_iret fx [(h0, ob 8 [.ref xa, .ref xb, .ref xc, .ref xd, .ref xe, .ref xf, .ref xg, .int (iI 0), .int (iI vk), .int (iI vw), .ref xm, .ref xv, .int (iI vg), .ref xw, .int (iI vb), .int (iI vi), .ref xq, .int (iI ve), .int (iI vf), .int (iI vu), .int (iI vl), .ref xr, .ref xh, .ref xo, .ref xp, .int (iI 0), .int (iI va), .int (iI vt), .int (iI vm), .int (iI vd), .int (iI vx)])] [0] hr dX8_mode_47 rfl rfl (nl rfl) (nl rfl) ⟨rfl, rfl⟩
theorem dX8_fill_0 : decode cX8_fill 0 = .ok (.aload_n 0, 1) := by decide +kernel
theorem dX8_fill_1 : decode cX8_fill 1 = .ok (.iconst 0, 1) := by decide +kernel
theorem dX8_fill_2 : decode cX8_fill 2 = .ok (.putfield 66, 3) := by decide +kernel
theorem dX8_fill_5 : decode cX8_fill 5 = .ok (.iload_n 1, 1) := by decide +kernel
theorem dX8_fill_6 : decode cX8_fill 6 = .ok (.ifCond .lt 10, 3) := by decide +kernel
theorem dX8_fill_9 : decode cX8_fill 9 = .ok (.iload_n 1, 1) := by decide +kernel
theorem dX8_fill_10 : decode cX8_fill 10 = .ok (.sipush 4000, 3) := by decide +kernel
theorem dX8_fill_13 : decode cX8_fill 13 = .ok (.if_icmp .le 5, 3) := by decide +kernel
theorem dX8_fill_16 : decode cX8_fill 16 = .ok (.iconst 0, 1) := by decide +kernel
theorem dX8_fill_17 : decode cX8_fill 17 = .ok (.ireturn, 1) := by decide +kernel
theorem dX8_fill_18 : decode cX8_fill 18 = .ok (.aload_n 0, 1) := by decide +kernel
theorem dX8_fill_19 : decode cX8_fill 19 = .ok (.iload_n 1, 1) := by decide +kernel
theorem dX8_fill_20 : decode cX8_fill 20 = .ok (.putfield 120, 3) := by decide +kernel
theorem dX8_fill_23 : decode cX8_fill 23 = .ok (.iconst 1, 1) := by decide +kernel
theorem dX8_fill_24 : decode cX8_fill 24 = .ok (.ireturn, 1) := by decide +kernel
abbrev po_c_X8_fill (g : GG) (h0 : Nat) (xa : Nat) (xb : Nat) (xc : Nat) (xd : Nat) (xe : Nat) (xf : Nat) (xg : Nat) (xm : Nat) (xv : Nat) (xw : Nat) (xq : Nat) (xr : Nat) (xh : Nat) (xo : Nat) (xp : Nat) (vc : Int) (vk : Int) (vw : Int) (vg : Int) (vb : Int) (vi : Int) (ve : Int) (vf : Int) (vu : Int) (vl : Int) (vr : Int) (va : Int) (vt : Int) (vm : Int) (vd : Int) (vx : Int) (x : Int) : Option Value → va_W → Prop := fun v8 w8 => ∃ r : Int, ∃ q2 : Int, v8 = some (.int (iI r)) ∧ w8 = [(h0, ob 8 [.ref xa, .ref xb, .ref xc, .ref xd, .ref xe, .ref xf, .ref xg, .int (iI 0), .int (iI vk), .int (iI vw), .ref xm, .ref xv, .int (iI vg), .ref xw, .int (iI vb), .int (iI vi), .ref xq, .int (iI ve), .int (iI q2), .int (iI vu), .int (iI vl), .ref xr, .ref xh, .ref xo, .ref xp, .int (iI vr), .int (iI va), .int (iI vt), .int (iI vm), .int (iI vd), .int (iI vx)])] ∧ ((r = 1 ∧ 0 ≤ x ∧ x ≤ 4000 ∧ q2 = x) ∨ (r = 0 ∧ (x < 0 ∨ 4000 < x) ∧ q2 = vf))
set_option maxHeartbeats 4000000 in
set_option maxRecDepth 100000 in
theorem c_X8_fill (l : Launch) (g : GG) (h0 : Nat) (xa : Nat) (xb : Nat) (xc : Nat) (xd : Nat) (xe : Nat) (xf : Nat) (xg : Nat) (xm : Nat) (xv : Nat) (xw : Nat) (xq : Nat) (xr : Nat) (xh : Nat) (xo : Nat) (xp : Nat) (vc : Int) (vk : Int) (vw : Int) (vg : Int) (vb : Int) (vi : Int) (ve : Int) (vf : Int) (vu : Int) (vl : Int) (vr : Int) (va : Int) (vt : Int) (vm : Int) (vd : Int) (vx : Int) (x : Int) (hp0 : -2147483648 ≤ x ∧ x < 2147483648) : Ct l g yX8_fill (wM yX8_fill cX8_fill 2 (some .boolean)) (rmD 0 0 0) [.ref h0, .int (iI x)] [(h0, ob 8 [.ref xa, .ref xb, .ref xc, .ref xd, .ref xe, .ref xf, .ref xg, .int (iI vc), .int (iI vk), .int (iI vw), .ref xm, .ref xv, .int (iI vg), .ref xw, .int (iI vb), .int (iI vi), .ref xq, .int (iI ve), .int (iI vf), .int (iI vu), .int (iI vl), .ref xr, .ref xh, .ref xo, .ref xp, .int (iI vr), .int (iI va), .int (iI vt), .int (iI vm), .int (iI vd), .int (iI vx)])] (po_c_X8_fill g h0 xa xb xc xd xe xf xg xm xv xw xq xr xh xo xp vc vk vw vg vb vi ve vf vu vl vr va vt vm vd vx x) := by
  refine Ct_of (by decide +kernel) (Nat.le_of_ble_eq_true rfl) ?_
  intro p9 e9 s9 m9 ag9 bl9 mt9 c9 A9 fx hr hnm
  refine v_aload_n fx 0 dX8_fill_0 rfl rfl ?_
  refine v_iconst fx dX8_fill_1 rfl ?_
  refine v_put fx 0 7 [(h0, ob 8 [.ref xa, .ref xb, .ref xc, .ref xd, .ref xe, .ref xf, .ref xg, .int (iI 0), .int (iI vk), .int (iI vw), .ref xm, .ref xv, .int (iI vg), .ref xw, .int (iI vb), .int (iI vi), .ref xq, .int (iI ve), .int (iI vf), .int (iI vu), .int (iI vl), .ref xr, .ref xh, .ref xo, .ref xp, .int (iI vr), .int (iI va), .int (iI vt), .int (iI vm), .int (iI vd), .int (iI vx)])] inX8 tyX8_ok nmX8 k1003 dX8_fill_2 rfl rfl (by decide) rfl rfl rfl rfl (nl rfl) rfl rfl ?_
  refine v_iload_n fx 1 dX8_fill_5 rfl rfl ?_
  refine v_if_lt fx 16 dX8_fill_6 (by decide) rfl (by omega) (fun h_1 => ?_) (fun h_1 => ?_)
  ·
    refine v_iconst fx dX8_fill_16 rfl ?_
    exact v_zret fx [(h0, ob 8 [.ref xa, .ref xb, .ref xc, .ref xd, .ref xe, .ref xf, .ref xg, .int (iI 0), .int (iI vk), .int (iI vw), .ref xm, .ref xv, .int (iI vg), .ref xw, .int (iI vb), .int (iI vi), .ref xq, .int (iI ve), .int (iI vf), .int (iI vu), .int (iI vl), .ref xr, .ref xh, .ref xo, .ref xp, .int (iI vr), .int (iI va), .int (iI vt), .int (iI vm), .int (iI vd), .int (iI vx)])] [0] hr dX8_fill_17 (by first | rfl | exact nar_z _ (by omega)) rfl rfl (nl rfl) (nl rfl) ⟨0, vf, rfl, rfl, (by first | omega | rfl | assumption)⟩
  ·
    refine v_iload_n fx 1 dX8_fill_9 rfl rfl ?_
    refine v_sipush fx dX8_fill_10 (by decide +kernel) rfl ?_
    refine v_icmp_le fx 18 dX8_fill_13 (by decide) rfl (by omega) (by omega) (fun h_2 => ?_) (fun h_2 => ?_)
    ·
      refine v_aload_n fx 0 dX8_fill_18 rfl rfl ?_
      refine v_iload_n fx 1 dX8_fill_19 rfl rfl ?_
      refine v_put fx 0 18 [(h0, ob 8 [.ref xa, .ref xb, .ref xc, .ref xd, .ref xe, .ref xf, .ref xg, .int (iI 0), .int (iI vk), .int (iI vw), .ref xm, .ref xv, .int (iI vg), .ref xw, .int (iI vb), .int (iI vi), .ref xq, .int (iI ve), .int (iI x), .int (iI vu), .int (iI vl), .ref xr, .ref xh, .ref xo, .ref xp, .int (iI vr), .int (iI va), .int (iI vt), .int (iI vm), .int (iI vd), .int (iI vx)])] inX8 tyX8_ok nmX8 k1014 dX8_fill_20 rfl rfl (by decide) rfl rfl rfl rfl (nl rfl) rfl rfl ?_
      refine v_iconst fx dX8_fill_23 rfl ?_
      exact v_zret fx [(h0, ob 8 [.ref xa, .ref xb, .ref xc, .ref xd, .ref xe, .ref xf, .ref xg, .int (iI 0), .int (iI vk), .int (iI vw), .ref xm, .ref xv, .int (iI vg), .ref xw, .int (iI vb), .int (iI vi), .ref xq, .int (iI ve), .int (iI x), .int (iI vu), .int (iI vl), .ref xr, .ref xh, .ref xo, .ref xp, .int (iI vr), .int (iI va), .int (iI vt), .int (iI vm), .int (iI vd), .int (iI vx)])] [0] hr dX8_fill_24 (by first | rfl | exact nar_z _ (by omega)) rfl rfl (nl rfl) (nl rfl) ⟨1, x, rfl, rfl, (by first | omega | rfl | assumption)⟩
    ·
      refine v_iconst fx dX8_fill_16 rfl ?_
      exact v_zret fx [(h0, ob 8 [.ref xa, .ref xb, .ref xc, .ref xd, .ref xe, .ref xf, .ref xg, .int (iI 0), .int (iI vk), .int (iI vw), .ref xm, .ref xv, .int (iI vg), .ref xw, .int (iI vb), .int (iI vi), .ref xq, .int (iI ve), .int (iI vf), .int (iI vu), .int (iI vl), .ref xr, .ref xh, .ref xo, .ref xp, .int (iI vr), .int (iI va), .int (iI vt), .int (iI vm), .int (iI vd), .int (iI vx)])] [0] hr dX8_fill_17 (by first | rfl | exact nar_z _ (by omega)) rfl rfl (nl rfl) (nl rfl) ⟨0, vf, rfl, rfl, (by first | omega | rfl | assumption)⟩
theorem dX8_repair_0 : decode cX8_repair 0 = .ok (.aload_n 0, 1) := by decide +kernel
theorem dX8_repair_1 : decode cX8_repair 1 = .ok (.iconst 0, 1) := by decide +kernel
theorem dX8_repair_2 : decode cX8_repair 2 = .ok (.putfield 66, 3) := by decide +kernel
theorem dX8_repair_5 : decode cX8_repair 5 = .ok (.iload_n 1, 1) := by decide +kernel
theorem dX8_repair_6 : decode cX8_repair 6 = .ok (.ifCond .lt 8, 3) := by decide +kernel
theorem dX8_repair_9 : decode cX8_repair 9 = .ok (.iload_n 1, 1) := by decide +kernel
theorem dX8_repair_10 : decode cX8_repair 10 = .ok (.iconst 1, 1) := by decide +kernel
theorem dX8_repair_11 : decode cX8_repair 11 = .ok (.if_icmp .le 5, 3) := by decide +kernel
theorem dX8_repair_14 : decode cX8_repair 14 = .ok (.iconst 0, 1) := by decide +kernel
theorem dX8_repair_15 : decode cX8_repair 15 = .ok (.ireturn, 1) := by decide +kernel
theorem dX8_repair_16 : decode cX8_repair 16 = .ok (.aload_n 0, 1) := by decide +kernel
theorem dX8_repair_17 : decode cX8_repair 17 = .ok (.iload_n 1, 1) := by decide +kernel
theorem dX8_repair_18 : decode cX8_repair 18 = .ok (.putfield 171, 3) := by decide +kernel
theorem dX8_repair_21 : decode cX8_repair 21 = .ok (.iconst 1, 1) := by decide +kernel
theorem dX8_repair_22 : decode cX8_repair 22 = .ok (.ireturn, 1) := by decide +kernel
abbrev po_c_X8_repair (g : GG) (h0 : Nat) (xa : Nat) (xb : Nat) (xc : Nat) (xd : Nat) (xe : Nat) (xf : Nat) (xg : Nat) (xm : Nat) (xv : Nat) (xw : Nat) (xq : Nat) (xr : Nat) (xh : Nat) (xo : Nat) (xp : Nat) (vc : Int) (vk : Int) (vw : Int) (vg : Int) (vb : Int) (vi : Int) (ve : Int) (vf : Int) (vu : Int) (vl : Int) (vr : Int) (va : Int) (vt : Int) (vm : Int) (vd : Int) (vx : Int) (x : Int) : Option Value → va_W → Prop := fun v8 w8 => ∃ r : Int, ∃ q2 : Int, v8 = some (.int (iI r)) ∧ w8 = [(h0, ob 8 [.ref xa, .ref xb, .ref xc, .ref xd, .ref xe, .ref xf, .ref xg, .int (iI 0), .int (iI vk), .int (iI vw), .ref xm, .ref xv, .int (iI vg), .ref xw, .int (iI vb), .int (iI vi), .ref xq, .int (iI ve), .int (iI vf), .int (iI q2), .int (iI vl), .ref xr, .ref xh, .ref xo, .ref xp, .int (iI vr), .int (iI va), .int (iI vt), .int (iI vm), .int (iI vd), .int (iI vx)])] ∧ ((r = 1 ∧ 0 ≤ x ∧ x ≤ 1 ∧ q2 = x) ∨ (r = 0 ∧ (x < 0 ∨ 1 < x) ∧ q2 = vu))
set_option maxHeartbeats 4000000 in
set_option maxRecDepth 100000 in
theorem c_X8_repair (l : Launch) (g : GG) (h0 : Nat) (xa : Nat) (xb : Nat) (xc : Nat) (xd : Nat) (xe : Nat) (xf : Nat) (xg : Nat) (xm : Nat) (xv : Nat) (xw : Nat) (xq : Nat) (xr : Nat) (xh : Nat) (xo : Nat) (xp : Nat) (vc : Int) (vk : Int) (vw : Int) (vg : Int) (vb : Int) (vi : Int) (ve : Int) (vf : Int) (vu : Int) (vl : Int) (vr : Int) (va : Int) (vt : Int) (vm : Int) (vd : Int) (vx : Int) (x : Int) (hp0 : -2147483648 ≤ x ∧ x < 2147483648) : Ct l g yX8_repair (wM yX8_repair cX8_repair 2 (some .boolean)) (rmD 0 0 0) [.ref h0, .int (iI x)] [(h0, ob 8 [.ref xa, .ref xb, .ref xc, .ref xd, .ref xe, .ref xf, .ref xg, .int (iI vc), .int (iI vk), .int (iI vw), .ref xm, .ref xv, .int (iI vg), .ref xw, .int (iI vb), .int (iI vi), .ref xq, .int (iI ve), .int (iI vf), .int (iI vu), .int (iI vl), .ref xr, .ref xh, .ref xo, .ref xp, .int (iI vr), .int (iI va), .int (iI vt), .int (iI vm), .int (iI vd), .int (iI vx)])] (po_c_X8_repair g h0 xa xb xc xd xe xf xg xm xv xw xq xr xh xo xp vc vk vw vg vb vi ve vf vu vl vr va vt vm vd vx x) := by
  refine Ct_of (by decide +kernel) (Nat.le_of_ble_eq_true rfl) ?_
  intro p9 e9 s9 m9 ag9 bl9 mt9 c9 A9 fx hr hnm
  refine v_aload_n fx 0 dX8_repair_0 rfl rfl ?_
  refine v_iconst fx dX8_repair_1 rfl ?_
  refine v_put fx 0 7 [(h0, ob 8 [.ref xa, .ref xb, .ref xc, .ref xd, .ref xe, .ref xf, .ref xg, .int (iI 0), .int (iI vk), .int (iI vw), .ref xm, .ref xv, .int (iI vg), .ref xw, .int (iI vb), .int (iI vi), .ref xq, .int (iI ve), .int (iI vf), .int (iI vu), .int (iI vl), .ref xr, .ref xh, .ref xo, .ref xp, .int (iI vr), .int (iI va), .int (iI vt), .int (iI vm), .int (iI vd), .int (iI vx)])] inX8 tyX8_ok nmX8 k1003 dX8_repair_2 rfl rfl (by decide) rfl rfl rfl rfl (nl rfl) rfl rfl ?_
  refine v_iload_n fx 1 dX8_repair_5 rfl rfl ?_
  refine v_if_lt fx 14 dX8_repair_6 (by decide) rfl (by omega) (fun h_1 => ?_) (fun h_1 => ?_)
  ·
    refine v_iconst fx dX8_repair_14 rfl ?_
    exact v_zret fx [(h0, ob 8 [.ref xa, .ref xb, .ref xc, .ref xd, .ref xe, .ref xf, .ref xg, .int (iI 0), .int (iI vk), .int (iI vw), .ref xm, .ref xv, .int (iI vg), .ref xw, .int (iI vb), .int (iI vi), .ref xq, .int (iI ve), .int (iI vf), .int (iI vu), .int (iI vl), .ref xr, .ref xh, .ref xo, .ref xp, .int (iI vr), .int (iI va), .int (iI vt), .int (iI vm), .int (iI vd), .int (iI vx)])] [0] hr dX8_repair_15 (by first | rfl | exact nar_z _ (by omega)) rfl rfl (nl rfl) (nl rfl) ⟨0, vu, rfl, rfl, (by first | omega | rfl | assumption)⟩
  ·
    refine v_iload_n fx 1 dX8_repair_9 rfl rfl ?_
    refine v_iconst fx dX8_repair_10 rfl ?_
    refine v_icmp_le fx 16 dX8_repair_11 (by decide) rfl (by omega) (by omega) (fun h_2 => ?_) (fun h_2 => ?_)
    ·
      refine v_aload_n fx 0 dX8_repair_16 rfl rfl ?_
      refine v_iload_n fx 1 dX8_repair_17 rfl rfl ?_
      refine v_put fx 0 19 [(h0, ob 8 [.ref xa, .ref xb, .ref xc, .ref xd, .ref xe, .ref xf, .ref xg, .int (iI 0), .int (iI vk), .int (iI vw), .ref xm, .ref xv, .int (iI vg), .ref xw, .int (iI vb), .int (iI vi), .ref xq, .int (iI ve), .int (iI vf), .int (iI x), .int (iI vl), .ref xr, .ref xh, .ref xo, .ref xp, .int (iI vr), .int (iI va), .int (iI vt), .int (iI vm), .int (iI vd), .int (iI vx)])] inX8 tyX8_ok nmX8 k1015 dX8_repair_18 rfl rfl (by decide) rfl rfl rfl rfl (nl rfl) rfl rfl ?_
      refine v_iconst fx dX8_repair_21 rfl ?_
      exact v_zret fx [(h0, ob 8 [.ref xa, .ref xb, .ref xc, .ref xd, .ref xe, .ref xf, .ref xg, .int (iI 0), .int (iI vk), .int (iI vw), .ref xm, .ref xv, .int (iI vg), .ref xw, .int (iI vb), .int (iI vi), .ref xq, .int (iI ve), .int (iI vf), .int (iI x), .int (iI vl), .ref xr, .ref xh, .ref xo, .ref xp, .int (iI vr), .int (iI va), .int (iI vt), .int (iI vm), .int (iI vd), .int (iI vx)])] [0] hr dX8_repair_22 (by first | rfl | exact nar_z _ (by omega)) rfl rfl (nl rfl) (nl rfl) ⟨1, x, rfl, rfl, (by first | omega | rfl | assumption)⟩
    ·
      refine v_iconst fx dX8_repair_14 rfl ?_
      exact v_zret fx [(h0, ob 8 [.ref xa, .ref xb, .ref xc, .ref xd, .ref xe, .ref xf, .ref xg, .int (iI 0), .int (iI vk), .int (iI vw), .ref xm, .ref xv, .int (iI vg), .ref xw, .int (iI vb), .int (iI vi), .ref xq, .int (iI ve), .int (iI vf), .int (iI vu), .int (iI vl), .ref xr, .ref xh, .ref xo, .ref xp, .int (iI vr), .int (iI va), .int (iI vt), .int (iI vm), .int (iI vd), .int (iI vx)])] [0] hr dX8_repair_15 (by first | rfl | exact nar_z _ (by omega)) rfl rfl (nl rfl) (nl rfl) ⟨0, vu, rfl, rfl, (by first | omega | rfl | assumption)⟩
theorem dX8_order_0 : decode cX8_order 0 = .ok (.aload_n 0, 1) := by decide +kernel
theorem dX8_order_1 : decode cX8_order 1 = .ok (.iconst 0, 1) := by decide +kernel
theorem dX8_order_2 : decode cX8_order 2 = .ok (.putfield 66, 3) := by decide +kernel
theorem dX8_order_5 : decode cX8_order 5 = .ok (.aload_n 0, 1) := by decide +kernel
theorem dX8_order_6 : decode cX8_order 6 = .ok (.getfield 75, 3) := by decide +kernel
theorem dX8_order_9 : decode cX8_order 9 = .ok (.iload_n 1, 1) := by decide +kernel
theorem dX8_order_10 : decode cX8_order 10 = .ok (.if_icmp .ne 7, 3) := by decide +kernel
theorem dX8_order_13 : decode cX8_order 13 = .ok (.iconst 0, 1) := by decide +kernel
theorem dX8_order_14 : decode cX8_order 14 = .ok (.goto 4, 3) := by decide +kernel
theorem dX8_order_17 : decode cX8_order 17 = .ok (.iconst 1, 1) := by decide +kernel
theorem dX8_order_18 : decode cX8_order 18 = .ok (.istore_n 2, 1) := by decide +kernel
theorem dX8_order_19 : decode cX8_order 19 = .ok (.aload_n 0, 1) := by decide +kernel
theorem dX8_order_20 : decode cX8_order 20 = .ok (.iload_n 1, 1) := by decide +kernel
theorem dX8_order_21 : decode cX8_order 21 = .ok (.putfield 75, 3) := by decide +kernel
theorem dX8_order_24 : decode cX8_order 24 = .ok (.iload_n 2, 1) := by decide +kernel
theorem dX8_order_25 : decode cX8_order 25 = .ok (.ireturn, 1) := by decide +kernel
abbrev po_c_X8_order (g : GG) (h0 : Nat) (xa : Nat) (xb : Nat) (xc : Nat) (xd : Nat) (xe : Nat) (xf : Nat) (xg : Nat) (xm : Nat) (xv : Nat) (xw : Nat) (xq : Nat) (xr : Nat) (xh : Nat) (xo : Nat) (xp : Nat) (vc : Int) (vk : Int) (vw : Int) (vg : Int) (vb : Int) (vi : Int) (ve : Int) (vf : Int) (vu : Int) (vl : Int) (vr : Int) (va : Int) (vt : Int) (vm : Int) (vd : Int) (vx : Int) (x : Int) : Option Value → va_W → Prop := fun v8 w8 => ∃ r : Int, v8 = some (.int (iI r)) ∧ w8 = [(h0, ob 8 [.ref xa, .ref xb, .ref xc, .ref xd, .ref xe, .ref xf, .ref xg, .int (iI 0), .int (iI vk), .int (iI vw), .ref xm, .ref xv, .int (iI vg), .ref xw, .int (iI vb), .int (iI vi), .ref xq, .int (iI ve), .int (iI vf), .int (iI vu), .int (iI x), .ref xr, .ref xh, .ref xo, .ref xp, .int (iI vr), .int (iI va), .int (iI vt), .int (iI vm), .int (iI vd), .int (iI vx)])] ∧ ((r = 0 ∧ x = vl) ∨ (r = 1 ∧ x ≠ vl))
set_option maxHeartbeats 4000000 in
set_option maxRecDepth 100000 in
theorem c_X8_order (l : Launch) (g : GG) (h0 : Nat) (xa : Nat) (xb : Nat) (xc : Nat) (xd : Nat) (xe : Nat) (xf : Nat) (xg : Nat) (xm : Nat) (xv : Nat) (xw : Nat) (xq : Nat) (xr : Nat) (xh : Nat) (xo : Nat) (xp : Nat) (vc : Int) (vk : Int) (vw : Int) (vg : Int) (vb : Int) (vi : Int) (ve : Int) (vf : Int) (vu : Int) (vl : Int) (vr : Int) (va : Int) (vt : Int) (vm : Int) (vd : Int) (vx : Int) (x : Int) (hp0 : 0 ≤ x ∧ x ≤ 1) (hp1 : 0 ≤ vl ∧ vl ≤ 1) : Ct l g yX8_order (wM yX8_order cX8_order 3 (some .int)) (rmD 0 0 0) [.ref h0, .int (iI x)] [(h0, ob 8 [.ref xa, .ref xb, .ref xc, .ref xd, .ref xe, .ref xf, .ref xg, .int (iI vc), .int (iI vk), .int (iI vw), .ref xm, .ref xv, .int (iI vg), .ref xw, .int (iI vb), .int (iI vi), .ref xq, .int (iI ve), .int (iI vf), .int (iI vu), .int (iI vl), .ref xr, .ref xh, .ref xo, .ref xp, .int (iI vr), .int (iI va), .int (iI vt), .int (iI vm), .int (iI vd), .int (iI vx)])] (po_c_X8_order g h0 xa xb xc xd xe xf xg xm xv xw xq xr xh xo xp vc vk vw vg vb vi ve vf vu vl vr va vt vm vd vx x) := by
  refine Ct_of (by decide +kernel) (Nat.le_of_ble_eq_true rfl) ?_
  intro p9 e9 s9 m9 ag9 bl9 mt9 c9 A9 fx hr hnm
  refine v_aload_n fx 0 dX8_order_0 rfl rfl ?_
  refine v_iconst fx dX8_order_1 rfl ?_
  refine v_put fx 0 7 [(h0, ob 8 [.ref xa, .ref xb, .ref xc, .ref xd, .ref xe, .ref xf, .ref xg, .int (iI 0), .int (iI vk), .int (iI vw), .ref xm, .ref xv, .int (iI vg), .ref xw, .int (iI vb), .int (iI vi), .ref xq, .int (iI ve), .int (iI vf), .int (iI vu), .int (iI vl), .ref xr, .ref xh, .ref xo, .ref xp, .int (iI vr), .int (iI va), .int (iI vt), .int (iI vm), .int (iI vd), .int (iI vx)])] inX8 tyX8_ok nmX8 k1003 dX8_order_2 rfl rfl (by decide) rfl rfl rfl rfl (nl rfl) rfl rfl ?_
  refine v_aload_n fx 0 dX8_order_5 rfl rfl ?_
  refine v_get fx 0 20 inX8 k1016 dX8_order_6 rfl rfl (by decide) rfl rfl rfl ?_
  refine v_iload_n fx 1 dX8_order_9 rfl rfl ?_
  refine v_icmp_ne fx 17 dX8_order_10 (by decide) rfl (by omega) (by omega) (fun h_1 => ?_) (fun h_1 => ?_)
  ·
    refine v_iconst fx dX8_order_17 rfl ?_
    refine v_istore_n fx [(2, .int (iI 1)), (0, .ref h0), (1, .int (iI x))] dX8_order_18 (by decide) rfl rfl ?_
    refine v_aload_n fx 1 dX8_order_19 rfl rfl ?_
    refine v_iload_n fx 2 dX8_order_20 rfl rfl ?_
    refine v_put fx 0 20 [(h0, ob 8 [.ref xa, .ref xb, .ref xc, .ref xd, .ref xe, .ref xf, .ref xg, .int (iI 0), .int (iI vk), .int (iI vw), .ref xm, .ref xv, .int (iI vg), .ref xw, .int (iI vb), .int (iI vi), .ref xq, .int (iI ve), .int (iI vf), .int (iI vu), .int (iI x), .ref xr, .ref xh, .ref xo, .ref xp, .int (iI vr), .int (iI va), .int (iI vt), .int (iI vm), .int (iI vd), .int (iI vx)])] inX8 tyX8_ok nmX8 k1016 dX8_order_21 rfl rfl (by decide) rfl rfl (by first | exact nar_z _ (by omega) | simp_all) (by first | exact fit_z _ (by omega) | simp_all) (nl rfl) rfl rfl ?_
    refine v_iload_n fx 0 dX8_order_24 rfl rfl ?_
    exact v_iret fx [(h0, ob 8 [.ref xa, .ref xb, .ref xc, .ref xd, .ref xe, .ref xf, .ref xg, .int (iI 0), .int (iI vk), .int (iI vw), .ref xm, .ref xv, .int (iI vg), .ref xw, .int (iI vb), .int (iI vi), .ref xq, .int (iI ve), .int (iI vf), .int (iI vu), .int (iI x), .ref xr, .ref xh, .ref xo, .ref xp, .int (iI vr), .int (iI va), .int (iI vt), .int (iI vm), .int (iI vd), .int (iI vx)])] [0] hr dX8_order_25 rfl rfl (nl rfl) (nl rfl) ⟨1, rfl, rfl, (by first | omega | rfl | assumption)⟩
  ·
    refine v_iconst fx dX8_order_13 rfl ?_
    refine v_goto fx 18 dX8_order_14 (by decide) ?_
    refine v_istore_n fx [(2, .int (iI 0)), (0, .ref h0), (1, .int (iI x))] dX8_order_18 (by decide) rfl rfl ?_
    refine v_aload_n fx 1 dX8_order_19 rfl rfl ?_
    refine v_iload_n fx 2 dX8_order_20 rfl rfl ?_
    refine v_put fx 0 20 [(h0, ob 8 [.ref xa, .ref xb, .ref xc, .ref xd, .ref xe, .ref xf, .ref xg, .int (iI 0), .int (iI vk), .int (iI vw), .ref xm, .ref xv, .int (iI vg), .ref xw, .int (iI vb), .int (iI vi), .ref xq, .int (iI ve), .int (iI vf), .int (iI vu), .int (iI x), .ref xr, .ref xh, .ref xo, .ref xp, .int (iI vr), .int (iI va), .int (iI vt), .int (iI vm), .int (iI vd), .int (iI vx)])] inX8 tyX8_ok nmX8 k1016 dX8_order_21 rfl rfl (by decide) rfl rfl (by first | exact nar_z _ (by omega) | simp_all) (by first | exact fit_z _ (by omega) | simp_all) (nl rfl) rfl rfl ?_
    refine v_iload_n fx 0 dX8_order_24 rfl rfl ?_
    exact v_iret fx [(h0, ob 8 [.ref xa, .ref xb, .ref xc, .ref xd, .ref xe, .ref xf, .ref xg, .int (iI 0), .int (iI vk), .int (iI vw), .ref xm, .ref xv, .int (iI vg), .ref xw, .int (iI vb), .int (iI vi), .ref xq, .int (iI ve), .int (iI vf), .int (iI vu), .int (iI x), .ref xr, .ref xh, .ref xo, .ref xp, .int (iI vr), .int (iI va), .int (iI vt), .int (iI vm), .int (iI vd), .int (iI vx)])] [0] hr dX8_order_25 rfl rfl (nl rfl) (nl rfl) ⟨0, rfl, rfl, (by first | omega | rfl | assumption)⟩
theorem dX8_clear_0 : decode cX8_clear 0 = .ok (.aload_n 0, 1) := by decide +kernel
theorem dX8_clear_1 : decode cX8_clear 1 = .ok (.iconst 0, 1) := by decide +kernel
theorem dX8_clear_2 : decode cX8_clear 2 = .ok (.putfield 66, 3) := by decide +kernel
theorem dX8_clear_5 : decode cX8_clear 5 = .ok (.iconst 0, 1) := by decide +kernel
theorem dX8_clear_6 : decode cX8_clear 6 = .ok (.istore_n 1, 1) := by decide +kernel
theorem dX8_clear_7 : decode cX8_clear 7 = .ok (.iload_n 1, 1) := by decide +kernel
theorem dX8_clear_8 : decode cX8_clear 8 = .ok (.aload_n 0, 1) := by decide +kernel
theorem dX8_clear_9 : decode cX8_clear 9 = .ok (.getfield 63, 3) := by decide +kernel
theorem dX8_clear_12 : decode cX8_clear 12 = .ok (.if_icmp .ge 16, 3) := by decide +kernel
theorem dX8_clear_15 : decode cX8_clear 15 = .ok (.aload_n 0, 1) := by decide +kernel
theorem dX8_clear_16 : decode cX8_clear 16 = .ok (.getfield 31, 3) := by decide +kernel
theorem dX8_clear_19 : decode cX8_clear 19 = .ok (.iload_n 1, 1) := by decide +kernel
theorem dX8_clear_20 : decode cX8_clear 20 = .ok (.iconst 0, 1) := by decide +kernel
theorem dX8_clear_21 : decode cX8_clear 21 = .ok (.bastore, 1) := by decide +kernel
theorem dX8_clear_22 : decode cX8_clear 22 = .ok (.iinc 1 1, 3) := by decide +kernel
theorem dX8_clear_25 : decode cX8_clear 25 = .ok (.goto (-18), 3) := by decide +kernel
theorem dX8_clear_28 : decode cX8_clear 28 = .ok (.aload_n 0, 1) := by decide +kernel
theorem dX8_clear_29 : decode cX8_clear 29 = .ok (.iconst 0, 1) := by decide +kernel
theorem dX8_clear_30 : decode cX8_clear 30 = .ok (.putfield 69, 3) := by decide +kernel
theorem dX8_clear_33 : decode cX8_clear 33 = .ok (.aload_n 0, 1) := by decide +kernel
theorem dX8_clear_34 : decode cX8_clear 34 = .ok (.iconst 0, 1) := by decide +kernel
theorem dX8_clear_35 : decode cX8_clear 35 = .ok (.putfield 108, 3) := by decide +kernel
theorem dX8_clear_38 : decode cX8_clear 38 = .ok (.aload_n 0, 1) := by decide +kernel
theorem dX8_clear_39 : decode cX8_clear 39 = .ok (.iconst 0, 1) := by decide +kernel
theorem dX8_clear_40 : decode cX8_clear 40 = .ok (.putfield 72, 3) := by decide +kernel
theorem dX8_clear_43 : decode cX8_clear 43 = .ok (.aload_n 0, 1) := by decide +kernel
theorem dX8_clear_44 : decode cX8_clear 44 = .ok (.iconst 0, 1) := by decide +kernel
theorem dX8_clear_45 : decode cX8_clear 45 = .ok (.putfield 123, 3) := by decide +kernel
theorem dX8_clear_48 : decode cX8_clear 48 = .ok (.aload_n 0, 1) := by decide +kernel
theorem dX8_clear_49 : decode cX8_clear 49 = .ok (.iconst 0, 1) := by decide +kernel
theorem dX8_clear_50 : decode cX8_clear 50 = .ok (.putfield 184, 3) := by decide +kernel
theorem dX8_clear_53 : decode cX8_clear 53 = .ok (.return_, 1) := by decide +kernel
abbrev po_c_X8_clear (g : GG) (h0 : Nat) (xa : Nat) (xb : Nat) (xc : Nat) (xd : Nat) (xe : Nat) (xf : Nat) (xg : Nat) (xm : Nat) (xv : Nat) (xw : Nat) (xq : Nat) (xr : Nat) (xh : Nat) (xo : Nat) (xp : Nat) (vc : Int) (vk : Int) (vw : Int) (vg : Int) (vb : Int) (vi : Int) (ve : Int) (vf : Int) (vu : Int) (vl : Int) (vr : Int) (va : Int) (vt : Int) (vm : Int) (vd : Int) (vx : Int) (f : Nat → Int32) : Option Value → va_W → Prop := fun v8 w8 => ∃ f2 : Nat → Int32, v8 = none ∧ w8 = [(h0, ob 8 [.ref xa, .ref xb, .ref xc, .ref xd, .ref xe, .ref xf, .ref xg, .int (iI 0), .int (iI vk), .int (iI vw), .ref xm, .ref xv, .int (iI 0), .ref xw, .int (iI 0), .int (iI 0), .ref xq, .int (iI 0), .int (iI vf), .int (iI vu), .int (iI vl), .ref xr, .ref xh, .ref xo, .ref xp, .int (iI 0), .int (iI va), .int (iI vt), .int (iI vm), .int (iI vd), .int (iI vx)]), (xm, aZ g 3000 f2)]
set_option maxHeartbeats 4000000 in
set_option maxRecDepth 100000 in
theorem c_X8_clear (l : Launch) (g : GG) (h0 : Nat) (xa : Nat) (xb : Nat) (xc : Nat) (xd : Nat) (xe : Nat) (xf : Nat) (xg : Nat) (xm : Nat) (xv : Nat) (xw : Nat) (xq : Nat) (xr : Nat) (xh : Nat) (xo : Nat) (xp : Nat) (vc : Int) (vk : Int) (vw : Int) (vg : Int) (vb : Int) (vi : Int) (ve : Int) (vf : Int) (vu : Int) (vl : Int) (vr : Int) (va : Int) (vt : Int) (vm : Int) (vd : Int) (vx : Int) (f : Nat → Int32) (hp0 : 1 ≤ vw ∧ vw ≤ 3000) : Ct l g yX8_clear (wM yX8_clear cX8_clear 2 none) (rmD 0 0 0) [.ref h0] [(h0, ob 8 [.ref xa, .ref xb, .ref xc, .ref xd, .ref xe, .ref xf, .ref xg, .int (iI vc), .int (iI vk), .int (iI vw), .ref xm, .ref xv, .int (iI vg), .ref xw, .int (iI vb), .int (iI vi), .ref xq, .int (iI ve), .int (iI vf), .int (iI vu), .int (iI vl), .ref xr, .ref xh, .ref xo, .ref xp, .int (iI vr), .int (iI va), .int (iI vt), .int (iI vm), .int (iI vd), .int (iI vx)]), (xm, aZ g 3000 f)] (po_c_X8_clear g h0 xa xb xc xd xe xf xg xm xv xw xq xr xh xo xp vc vk vw vg vb vi ve vf vu vl vr va vt vm vd vx f) := by
  refine Ct_of (by decide +kernel) (Nat.le_of_ble_eq_true rfl) ?_
  intro p9 e9 s9 m9 ag9 bl9 mt9 c9 A9 fx hr hnm
  refine v_aload_n fx 0 dX8_clear_0 rfl rfl ?_
  refine v_iconst fx dX8_clear_1 rfl ?_
  refine v_put fx 0 7 [(h0, ob 8 [.ref xa, .ref xb, .ref xc, .ref xd, .ref xe, .ref xf, .ref xg, .int (iI 0), .int (iI vk), .int (iI vw), .ref xm, .ref xv, .int (iI vg), .ref xw, .int (iI vb), .int (iI vi), .ref xq, .int (iI ve), .int (iI vf), .int (iI vu), .int (iI vl), .ref xr, .ref xh, .ref xo, .ref xp, .int (iI vr), .int (iI va), .int (iI vt), .int (iI vm), .int (iI vd), .int (iI vx)]), (xm, aZ g 3000 f)] inX8 tyX8_ok nmX8 k1003 dX8_clear_2 rfl rfl (by decide) rfl rfl rfl rfl (nl rfl) rfl rfl ?_
  refine v_iconst fx dX8_clear_5 rfl ?_
  refine v_istore_n fx [(1, .int (iI 0)), (0, .ref h0)] dX8_clear_6 (by decide) rfl rfl ?_
  have L7 : ∀ (N : Nat) (i : Int) (f1 : Nat → Int32), (0 ≤ i ∧ i ≤ vw) → ((vw - i).toNat) < N → V p9 l e9 (rmD 0 0 0) s9 m9 ag9 bl9 mt9 c9 2 g A9 (MQ bl9 (cQ g (po_c_X8_clear g h0 xa xb xc xd xe xf xg xm xv xw xq xr xh xo xp vc vk vw vg vb vi ve vf vu vl vr va vt vm vd vx f) A9) ag9 s9 0 0 A9) [(h0, ob 8 [.ref xa, .ref xb, .ref xc, .ref xd, .ref xe, .ref xf, .ref xg, .int (iI 0), .int (iI vk), .int (iI vw), .ref xm, .ref xv, .int (iI vg), .ref xw, .int (iI vb), .int (iI vi), .ref xq, .int (iI ve), .int (iI vf), .int (iI vu), .int (iI vl), .ref xr, .ref xh, .ref xo, .ref xp, .int (iI vr), .int (iI va), .int (iI vt), .int (iI vm), .int (iI vd), .int (iI vx)]), (xm, aZ g 3000 f1)] 0 0 [(0, .ref h0), (1, .int (iI i))] 7 [] := by
    intro N
    induction N with
    | zero => intro i f1 hi7_0 hN; exact absurd hN (Nat.not_lt_zero _)
    | succ N ihL7 =>
      intro i f1 hi7_0 hN7
      refine v_iload_n fx 1 dX8_clear_7 rfl rfl ?_
      refine v_aload_n fx 0 dX8_clear_8 rfl rfl ?_
      refine v_get fx 0 9 inX8 k1005 dX8_clear_9 rfl rfl (by decide) rfl rfl rfl ?_
      refine v_icmp_ge fx 28 dX8_clear_12 (by decide) rfl (by omega) (by omega) (fun h_1 => ?_) (fun h_1 => ?_)
      ·
        refine v_aload_n fx 0 dX8_clear_28 rfl rfl ?_
        refine v_iconst fx dX8_clear_29 rfl ?_
        refine v_put fx 0 12 [(h0, ob 8 [.ref xa, .ref xb, .ref xc, .ref xd, .ref xe, .ref xf, .ref xg, .int (iI 0), .int (iI vk), .int (iI vw), .ref xm, .ref xv, .int (iI 0), .ref xw, .int (iI vb), .int (iI vi), .ref xq, .int (iI ve), .int (iI vf), .int (iI vu), .int (iI vl), .ref xr, .ref xh, .ref xo, .ref xp, .int (iI vr), .int (iI va), .int (iI vt), .int (iI vm), .int (iI vd), .int (iI vx)]), (xm, aZ g 3000 f1)] inX8 tyX8_ok nmX8 k1008 dX8_clear_30 rfl rfl (by decide) rfl rfl rfl rfl (nl rfl) rfl rfl ?_
        refine v_aload_n fx 0 dX8_clear_33 rfl rfl ?_
        refine v_iconst fx dX8_clear_34 rfl ?_
        refine v_put fx 0 15 [(h0, ob 8 [.ref xa, .ref xb, .ref xc, .ref xd, .ref xe, .ref xf, .ref xg, .int (iI 0), .int (iI vk), .int (iI vw), .ref xm, .ref xv, .int (iI 0), .ref xw, .int (iI vb), .int (iI 0), .ref xq, .int (iI ve), .int (iI vf), .int (iI vu), .int (iI vl), .ref xr, .ref xh, .ref xo, .ref xp, .int (iI vr), .int (iI va), .int (iI vt), .int (iI vm), .int (iI vd), .int (iI vx)]), (xm, aZ g 3000 f1)] inX8 tyX8_ok nmX8 k1011 dX8_clear_35 rfl rfl (by decide) rfl rfl rfl rfl (nl rfl) rfl rfl ?_
        refine v_aload_n fx 0 dX8_clear_38 rfl rfl ?_
        refine v_iconst fx dX8_clear_39 rfl ?_
        refine v_put fx 0 14 [(h0, ob 8 [.ref xa, .ref xb, .ref xc, .ref xd, .ref xe, .ref xf, .ref xg, .int (iI 0), .int (iI vk), .int (iI vw), .ref xm, .ref xv, .int (iI 0), .ref xw, .int (iI 0), .int (iI 0), .ref xq, .int (iI ve), .int (iI vf), .int (iI vu), .int (iI vl), .ref xr, .ref xh, .ref xo, .ref xp, .int (iI vr), .int (iI va), .int (iI vt), .int (iI vm), .int (iI vd), .int (iI vx)]), (xm, aZ g 3000 f1)] inX8 tyX8_ok nmX8 k1010 dX8_clear_40 rfl rfl (by decide) rfl rfl rfl rfl (nl rfl) rfl rfl ?_
        refine v_aload_n fx 0 dX8_clear_43 rfl rfl ?_
        refine v_iconst fx dX8_clear_44 rfl ?_
        refine v_put fx 0 17 [(h0, ob 8 [.ref xa, .ref xb, .ref xc, .ref xd, .ref xe, .ref xf, .ref xg, .int (iI 0), .int (iI vk), .int (iI vw), .ref xm, .ref xv, .int (iI 0), .ref xw, .int (iI 0), .int (iI 0), .ref xq, .int (iI 0), .int (iI vf), .int (iI vu), .int (iI vl), .ref xr, .ref xh, .ref xo, .ref xp, .int (iI vr), .int (iI va), .int (iI vt), .int (iI vm), .int (iI vd), .int (iI vx)]), (xm, aZ g 3000 f1)] inX8 tyX8_ok nmX8 k1013 dX8_clear_45 rfl rfl (by decide) rfl rfl rfl rfl (nl rfl) rfl rfl ?_
        refine v_aload_n fx 0 dX8_clear_48 rfl rfl ?_
        refine v_iconst fx dX8_clear_49 rfl ?_
        refine v_put fx 0 25 [(h0, ob 8 [.ref xa, .ref xb, .ref xc, .ref xd, .ref xe, .ref xf, .ref xg, .int (iI 0), .int (iI vk), .int (iI vw), .ref xm, .ref xv, .int (iI 0), .ref xw, .int (iI 0), .int (iI 0), .ref xq, .int (iI 0), .int (iI vf), .int (iI vu), .int (iI vl), .ref xr, .ref xh, .ref xo, .ref xp, .int (iI 0), .int (iI va), .int (iI vt), .int (iI vm), .int (iI vd), .int (iI vx)]), (xm, aZ g 3000 f1)] inX8 tyX8_ok nmX8 k1021 dX8_clear_50 rfl rfl (by decide) rfl rfl rfl rfl (nl rfl) rfl rfl ?_
        exact v_vret fx [(h0, ob 8 [.ref xa, .ref xb, .ref xc, .ref xd, .ref xe, .ref xf, .ref xg, .int (iI 0), .int (iI vk), .int (iI vw), .ref xm, .ref xv, .int (iI 0), .ref xw, .int (iI 0), .int (iI 0), .ref xq, .int (iI 0), .int (iI vf), .int (iI vu), .int (iI vl), .ref xr, .ref xh, .ref xo, .ref xp, .int (iI 0), .int (iI va), .int (iI vt), .int (iI vm), .int (iI vd), .int (iI vx)]), (xm, aZ g 3000 f1)] [0, 1] hr dX8_clear_53 rfl rfl (nl rfl) (nl rfl) ⟨f1, rfl, rfl⟩
      ·
        refine v_aload_n fx 0 dX8_clear_15 rfl rfl ?_
        refine v_get fx 0 10 inX8 k1006 dX8_clear_16 rfl rfl (by decide) rfl rfl rfl ?_
        refine v_iload_n fx 1 dX8_clear_19 rfl rfl ?_
        refine v_iconst fx dX8_clear_20 rfl ?_
        obtain ⟨f_2, ef_2⟩ : ∃ f9 : Nat → Int32, upd f1 (i).toNat (vp_nar .boolean (iI 0)) = f9 := ⟨_, rfl⟩
        refine v_zast fx 1 f_2 [(h0, ob 8 [.ref xa, .ref xb, .ref xc, .ref xd, .ref xe, .ref xf, .ref xg, .int (iI 0), .int (iI vk), .int (iI vw), .ref xm, .ref xv, .int (iI vg), .ref xw, .int (iI vb), .int (iI vi), .ref xq, .int (iI ve), .int (iI vf), .int (iI vu), .int (iI vl), .ref xr, .ref xh, .ref xo, .ref xp, .int (iI vr), .int (iI va), .int (iI vt), .int (iI vm), .int (iI vd), .int (iI vx)]), (xm, aZ g 3000 f_2)] dX8_clear_21 rfl (by omega) (by omega) ef_2 rfl rfl ?_
        refine v_iinc fx 1 (i + 1) [(1, .int (iI (i + 1))), (0, .ref h0)] dX8_clear_22 rfl (by omega) (by decide) rfl rfl ?_
        refine v_goto fx 7 dX8_clear_25 (by decide) ?_
        refine v_lv [1, 0] [(0, .ref h0), (1, .int (iI (i + 1)))] rfl ?_
        exact ihL7 (i + 1) f_2 (by omega) (by omega)
  refine v_lv [1, 0] [(0, .ref h0), (1, .int (iI 0))] rfl ?_
  exact L7 _ 0 f (by omega) (Nat.lt_succ_self _)
