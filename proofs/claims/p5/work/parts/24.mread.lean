/-! THE REFERENCE READS -/
/-- what is fed has no more than 16000 bits -/
def sOk (vm vt : Int) : Prop := vm ≠ 0 → vt ≤ 16000
/-- how many modes are kept of each row -/
def mC (f : Nat → Int32) : Prop := ∀ i, 0 ≤ (f i).toInt ∧ (f i).toInt ≤ 3004
theorem mC_0 : mC (fun _ => 0) := fun _ => (by decide : 0 ≤ (0 : Int32).toInt ∧ (0 : Int32).toInt ≤ 3004)
theorem mC_upd {f : Nat → Int32} (h : mC f) {k : Nat} {t : Int} (ht : 0 ≤ t ∧ t ≤ 3004) : mC (upd f k (iI t)) := by
  intro i
  by_cases hi : i = k
  · subst hi
    rw [pk_us, iI_toInt (by omega)]
    exact ht
  · rw [pk_un hi]; exact h i
theorem mC_updE {f f2 : Nat → Int32} {k : Nat} {t : Int} (e : upd f k (iI t) = f2) (h : mC f) (ht : 0 ≤ t ∧ t ≤ 3004) : mC f2 := e ▸ mC_upd h ht
theorem mC_at {f : Nat → Int32} (h : mC f) {i : Nat} {z : Int} (e : f i = iI z) (hz : -2147483648 ≤ z ∧ z < 2147483648) : 0 ≤ z ∧ z ≤ 3004 := by
  have := h i
  rw [e, iI_toInt hz] at this
  exact this
theorem rR_at {f : Nat → Int32} (h : rR f) {i : Nat} {z : Int} (e : f i = iI z) (hz : -2147483648 ≤ z ∧ z < 2147483648) : 0 ≤ z ∧ z ≤ 3000 := by
  have := h i
  rw [e, iI_toInt hz] at this
  exact this
theorem same_at {x : Int32} {z z2 : Int} (e : x = iI z) (hz : -2147483648 ≤ z ∧ z < 2147483648) (e2 : x = iI z2) (hz2 : -2147483648 ≤ z2 ∧ z2 < 2147483648) : z2 = z := ((iI_inj hz hz2).mp (e.symm.trans e2)).symm
theorem dX8_bitAt_0 : decode cX8_bitAt 0 = .ok (.aload_n 0, 1) := by decide +kernel
theorem dX8_bitAt_1 : decode cX8_bitAt 1 = .ok (.getfield 126, 3) := by decide +kernel
theorem dX8_bitAt_4 : decode cX8_bitAt 4 = .ok (.ifCond .eq 15, 3) := by decide +kernel
theorem dX8_bitAt_7 : decode cX8_bitAt 7 = .ok (.aload_n 0, 1) := by decide +kernel
theorem dX8_bitAt_8 : decode cX8_bitAt 8 = .ok (.getfield 42, 3) := by decide +kernel
theorem dX8_bitAt_11 : decode cX8_bitAt 11 = .ok (.iload_n 1, 1) := by decide +kernel
theorem dX8_bitAt_12 : decode cX8_bitAt 12 = .ok (.bipush 8, 2) := by decide +kernel
theorem dX8_bitAt_14 : decode cX8_bitAt 14 = .ok (.idiv, 1) := by decide +kernel
theorem dX8_bitAt_15 : decode cX8_bitAt 15 = .ok (.iaload, 1) := by decide +kernel
theorem dX8_bitAt_16 : decode cX8_bitAt 16 = .ok (.goto 12, 3) := by decide +kernel
theorem dX8_bitAt_19 : decode cX8_bitAt 19 = .ok (.aload_n 0, 1) := by decide +kernel
theorem dX8_bitAt_20 : decode cX8_bitAt 20 = .ok (.getfield 39, 3) := by decide +kernel
theorem dX8_bitAt_23 : decode cX8_bitAt 23 = .ok (.iload_n 1, 1) := by decide +kernel
theorem dX8_bitAt_24 : decode cX8_bitAt 24 = .ok (.bipush 8, 2) := by decide +kernel
theorem dX8_bitAt_26 : decode cX8_bitAt 26 = .ok (.idiv, 1) := by decide +kernel
theorem dX8_bitAt_27 : decode cX8_bitAt 27 = .ok (.iaload, 1) := by decide +kernel
theorem dX8_bitAt_28 : decode cX8_bitAt 28 = .ok (.istore_n 2, 1) := by decide +kernel
theorem dX8_bitAt_29 : decode cX8_bitAt 29 = .ok (.iload_n 2, 1) := by decide +kernel
theorem dX8_bitAt_30 : decode cX8_bitAt 30 = .ok (.aload_n 0, 1) := by decide +kernel
theorem dX8_bitAt_31 : decode cX8_bitAt 31 = .ok (.getfield 75, 3) := by decide +kernel
theorem dX8_bitAt_34 : decode cX8_bitAt 34 = .ok (.ifCond .eq 10, 3) := by decide +kernel
theorem dX8_bitAt_37 : decode cX8_bitAt 37 = .ok (.iload_n 1, 1) := by decide +kernel
theorem dX8_bitAt_38 : decode cX8_bitAt 38 = .ok (.bipush 8, 2) := by decide +kernel
theorem dX8_bitAt_40 : decode cX8_bitAt 40 = .ok (.irem, 1) := by decide +kernel
theorem dX8_bitAt_41 : decode cX8_bitAt 41 = .ok (.goto 10, 3) := by decide +kernel
theorem dX8_bitAt_44 : decode cX8_bitAt 44 = .ok (.bipush 7, 2) := by decide +kernel
theorem dX8_bitAt_46 : decode cX8_bitAt 46 = .ok (.iload_n 1, 1) := by decide +kernel
theorem dX8_bitAt_47 : decode cX8_bitAt 47 = .ok (.bipush 8, 2) := by decide +kernel
theorem dX8_bitAt_49 : decode cX8_bitAt 49 = .ok (.irem, 1) := by decide +kernel
theorem dX8_bitAt_50 : decode cX8_bitAt 50 = .ok (.isub, 1) := by decide +kernel
theorem dX8_bitAt_51 : decode cX8_bitAt 51 = .ok (.ishr, 1) := by decide +kernel
theorem dX8_bitAt_52 : decode cX8_bitAt 52 = .ok (.iconst 1, 1) := by decide +kernel
theorem dX8_bitAt_53 : decode cX8_bitAt 53 = .ok (.iand, 1) := by decide +kernel
theorem dX8_bitAt_54 : decode cX8_bitAt 54 = .ok (.ireturn, 1) := by decide +kernel
abbrev po_c_X8_bitAt (g : GG) (h0 : Nat) (xa : Nat) (xb : Nat) (xc : Nat) (xd : Nat) (xe : Nat) (xf : Nat) (xg : Nat) (xm : Nat) (xv : Nat) (xw : Nat) (xq : Nat) (xr : Nat) (xh : Nat) (xo : Nat) (xp : Nat) (vc : Int) (vk : Int) (vw : Int) (vg : Int) (vb : Int) (vi : Int) (ve : Int) (vf : Int) (vu : Int) (vl : Int) (vr : Int) (va : Int) (vt : Int) (vm : Int) (vd : Int) (vx : Int) (f : Nat → Int32) (fq : Nat → Int32) (i : Int) : Option Value → va_W → Prop := fun v8 w8 => ∃ r : Int, v8 = some (.int (iI r)) ∧ w8 = [(h0, ob 8 [.ref xa, .ref xb, .ref xc, .ref xd, .ref xe, .ref xf, .ref xg, .int (iI vc), .int (iI vk), .int (iI vw), .ref xm, .ref xv, .int (iI vg), .ref xw, .int (iI vb), .int (iI vi), .ref xq, .int (iI ve), .int (iI vf), .int (iI vu), .int (iI vl), .ref xr, .ref xh, .ref xo, .ref xp, .int (iI vr), .int (iI va), .int (iI vt), .int (iI vm), .int (iI vd), .int (iI vx)]), (xw, aI g 72000 f), (xq, aI g 2000 fq)] ∧ (0 ≤ r ∧ r ≤ 1)
set_option maxHeartbeats 4000000 in
set_option maxRecDepth 100000 in
theorem c_X8_bitAt (l : Launch) (g : GG) (h0 : Nat) (xa : Nat) (xb : Nat) (xc : Nat) (xd : Nat) (xe : Nat) (xf : Nat) (xg : Nat) (xm : Nat) (xv : Nat) (xw : Nat) (xq : Nat) (xr : Nat) (xh : Nat) (xo : Nat) (xp : Nat) (vc : Int) (vk : Int) (vw : Int) (vg : Int) (vb : Int) (vi : Int) (ve : Int) (vf : Int) (vu : Int) (vl : Int) (vr : Int) (va : Int) (vt : Int) (vm : Int) (vd : Int) (vx : Int) (f : Nat → Int32) (fq : Nat → Int32) (i : Int) (hp0 : sOk vm vt) (hp1 : 0 ≤ vt ∧ vt ≤ 576000) (hp2 : 0 ≤ vl ∧ vl ≤ 1) (hp3 : 0 ≤ vm ∧ vm ≤ 1) (hp4 : 0 ≤ i ∧ i < vt) : Ct l g yX8_bitAt (wM yX8_bitAt cX8_bitAt 3 (some .int)) (rmD 0 0 0) [.ref h0, .int (iI i)] [(h0, ob 8 [.ref xa, .ref xb, .ref xc, .ref xd, .ref xe, .ref xf, .ref xg, .int (iI vc), .int (iI vk), .int (iI vw), .ref xm, .ref xv, .int (iI vg), .ref xw, .int (iI vb), .int (iI vi), .ref xq, .int (iI ve), .int (iI vf), .int (iI vu), .int (iI vl), .ref xr, .ref xh, .ref xo, .ref xp, .int (iI vr), .int (iI va), .int (iI vt), .int (iI vm), .int (iI vd), .int (iI vx)]), (xw, aI g 72000 f), (xq, aI g 2000 fq)] (po_c_X8_bitAt g h0 xa xb xc xd xe xf xg xm xv xw xq xr xh xo xp vc vk vw vg vb vi ve vf vu vl vr va vt vm vd vx f fq i) := by
  refine Ct_of (by decide +kernel) (Nat.le_of_ble_eq_true rfl) ?_
  intro p9 e9 s9 m9 ag9 bl9 mt9 c9 A9 fx hr hnm
  refine v_aload_n fx 0 dX8_bitAt_0 rfl rfl ?_
  refine v_get fx 0 28 inX8 k1024 dX8_bitAt_1 rfl rfl (by decide) rfl rfl rfl ?_
  refine v_if_eq fx 19 dX8_bitAt_4 (by decide) rfl (by omega) (fun h_1 => ?_) (fun h_1 => ?_)
  ·
    refine v_aload_n fx 0 dX8_bitAt_19 rfl rfl ?_
    refine v_get fx 0 13 inX8 k1009 dX8_bitAt_20 rfl rfl (by decide) rfl rfl rfl ?_
    refine v_iload_n fx 1 dX8_bitAt_23 rfl rfl ?_
    refine v_bipush fx dX8_bitAt_24 (by decide +kernel) rfl ?_
    refine v_idiv fx (iI (i / 8)) dX8_bitAt_26 (by decide) (iI_div (by omega) 8 (by decide) (by decide)) rfl ?_
    refine v_iald fx 1 dX8_bitAt_27 rfl (by omega) (by omega) rfl ?_
    refine v_istore_n fx [(2, .int (f (i / 8).toNat)), (0, .ref h0), (1, .int (iI i))] dX8_bitAt_28 (by decide) rfl rfl ?_
    refine v_iload_n fx 0 dX8_bitAt_29 rfl rfl ?_
    refine v_aload_n fx 1 dX8_bitAt_30 rfl rfl ?_
    refine v_get fx 0 20 inX8 k1016 dX8_bitAt_31 rfl rfl (by decide) rfl rfl rfl ?_
    refine v_if_eq fx 44 dX8_bitAt_34 (by decide) rfl (by omega) (fun h_2 => ?_) (fun h_2 => ?_)
    ·
      refine v_bipush fx dX8_bitAt_44 (by decide +kernel) rfl ?_
      refine v_iload_n fx 2 dX8_bitAt_46 rfl rfl ?_
      refine v_bipush fx dX8_bitAt_47 (by decide +kernel) rfl ?_
      refine v_irem fx (iI (i % 8)) dX8_bitAt_49 (by decide) (iI_rem (by omega) 8 (by decide) (by decide)) rfl ?_
      refine v_isub fx (7 - (i % 8)) dX8_bitAt_50 (by rfl) rfl ?_
      obtain ⟨t_3, et_3⟩ : ∃ x9 : Int32, (f (i / 8).toNat) >>> ((iI (7 - (i % 8))) &&& 31) = x9 := ⟨_, rfl⟩
      refine v_ishr fx t_3 dX8_bitAt_51 et_3 rfl ?_
      refine v_iconst fx dX8_bitAt_52 rfl ?_
      obtain ⟨t_4, et_4⟩ : ∃ x9 : Int32, t_3 &&& (iI 1) = x9 := ⟨_, rfl⟩
      refine v_iand fx t_4 dX8_bitAt_53 et_4 rfl ?_
      refine v_any (fun z_5 hz_5 ez_5 => ?_)
      have hb1 := and1_b (by assumption) ez_5 hz_5
      exact v_iret fx [(h0, ob 8 [.ref xa, .ref xb, .ref xc, .ref xd, .ref xe, .ref xf, .ref xg, .int (iI vc), .int (iI vk), .int (iI vw), .ref xm, .ref xv, .int (iI vg), .ref xw, .int (iI vb), .int (iI vi), .ref xq, .int (iI ve), .int (iI vf), .int (iI vu), .int (iI vl), .ref xr, .ref xh, .ref xo, .ref xp, .int (iI vr), .int (iI va), .int (iI vt), .int (iI vm), .int (iI vd), .int (iI vx)]), (xw, aI g 72000 f), (xq, aI g 2000 fq)] [0, 1, 2] hr dX8_bitAt_54 rfl rfl (nl rfl) (nl rfl) ⟨z_5, rfl, rfl, (by first | omega | rfl | assumption)⟩
    ·
      refine v_iload_n fx 2 dX8_bitAt_37 rfl rfl ?_
      refine v_bipush fx dX8_bitAt_38 (by decide +kernel) rfl ?_
      refine v_irem fx (iI (i % 8)) dX8_bitAt_40 (by decide) (iI_rem (by omega) 8 (by decide) (by decide)) rfl ?_
      refine v_goto fx 51 dX8_bitAt_41 (by decide) ?_
      obtain ⟨t_6, et_6⟩ : ∃ x9 : Int32, (f (i / 8).toNat) >>> ((iI (i % 8)) &&& 31) = x9 := ⟨_, rfl⟩
      refine v_ishr fx t_6 dX8_bitAt_51 et_6 rfl ?_
      refine v_iconst fx dX8_bitAt_52 rfl ?_
      obtain ⟨t_7, et_7⟩ : ∃ x9 : Int32, t_6 &&& (iI 1) = x9 := ⟨_, rfl⟩
      refine v_iand fx t_7 dX8_bitAt_53 et_7 rfl ?_
      refine v_any (fun z_8 hz_8 ez_8 => ?_)
      have hb1 := and1_b (by assumption) ez_8 hz_8
      exact v_iret fx [(h0, ob 8 [.ref xa, .ref xb, .ref xc, .ref xd, .ref xe, .ref xf, .ref xg, .int (iI vc), .int (iI vk), .int (iI vw), .ref xm, .ref xv, .int (iI vg), .ref xw, .int (iI vb), .int (iI vi), .ref xq, .int (iI ve), .int (iI vf), .int (iI vu), .int (iI vl), .ref xr, .ref xh, .ref xo, .ref xp, .int (iI vr), .int (iI va), .int (iI vt), .int (iI vm), .int (iI vd), .int (iI vx)]), (xw, aI g 72000 f), (xq, aI g 2000 fq)] [0, 1, 2] hr dX8_bitAt_54 rfl rfl (nl rfl) (nl rfl) ⟨z_8, rfl, rfl, (by first | omega | rfl | assumption)⟩
  ·
    have hq := hp0 h_1
    refine v_aload_n fx 0 dX8_bitAt_7 rfl rfl ?_
    refine v_get fx 0 16 inX8 k1012 dX8_bitAt_8 rfl rfl (by decide) rfl rfl rfl ?_
    refine v_iload_n fx 1 dX8_bitAt_11 rfl rfl ?_
    refine v_bipush fx dX8_bitAt_12 (by decide +kernel) rfl ?_
    refine v_idiv fx (iI (i / 8)) dX8_bitAt_14 (by decide) (iI_div (by omega) 8 (by decide) (by decide)) rfl ?_
    refine v_iald fx 2 dX8_bitAt_15 rfl (by omega) (by omega) rfl ?_
    refine v_goto fx 28 dX8_bitAt_16 (by decide) ?_
    refine v_istore_n fx [(2, .int (fq (i / 8).toNat)), (0, .ref h0), (1, .int (iI i))] dX8_bitAt_28 (by decide) rfl rfl ?_
    refine v_iload_n fx 0 dX8_bitAt_29 rfl rfl ?_
    refine v_aload_n fx 1 dX8_bitAt_30 rfl rfl ?_
    refine v_get fx 0 20 inX8 k1016 dX8_bitAt_31 rfl rfl (by decide) rfl rfl rfl ?_
    refine v_if_eq fx 44 dX8_bitAt_34 (by decide) rfl (by omega) (fun h_9 => ?_) (fun h_9 => ?_)
    ·
      refine v_bipush fx dX8_bitAt_44 (by decide +kernel) rfl ?_
      refine v_iload_n fx 2 dX8_bitAt_46 rfl rfl ?_
      refine v_bipush fx dX8_bitAt_47 (by decide +kernel) rfl ?_
      refine v_irem fx (iI (i % 8)) dX8_bitAt_49 (by decide) (iI_rem (by omega) 8 (by decide) (by decide)) rfl ?_
      refine v_isub fx (7 - (i % 8)) dX8_bitAt_50 (by rfl) rfl ?_
      obtain ⟨t_10, et_10⟩ : ∃ x9 : Int32, (fq (i / 8).toNat) >>> ((iI (7 - (i % 8))) &&& 31) = x9 := ⟨_, rfl⟩
      refine v_ishr fx t_10 dX8_bitAt_51 et_10 rfl ?_
      refine v_iconst fx dX8_bitAt_52 rfl ?_
      obtain ⟨t_11, et_11⟩ : ∃ x9 : Int32, t_10 &&& (iI 1) = x9 := ⟨_, rfl⟩
      refine v_iand fx t_11 dX8_bitAt_53 et_11 rfl ?_
      refine v_any (fun z_12 hz_12 ez_12 => ?_)
      have hb1 := and1_b (by assumption) ez_12 hz_12
      exact v_iret fx [(h0, ob 8 [.ref xa, .ref xb, .ref xc, .ref xd, .ref xe, .ref xf, .ref xg, .int (iI vc), .int (iI vk), .int (iI vw), .ref xm, .ref xv, .int (iI vg), .ref xw, .int (iI vb), .int (iI vi), .ref xq, .int (iI ve), .int (iI vf), .int (iI vu), .int (iI vl), .ref xr, .ref xh, .ref xo, .ref xp, .int (iI vr), .int (iI va), .int (iI vt), .int (iI vm), .int (iI vd), .int (iI vx)]), (xw, aI g 72000 f), (xq, aI g 2000 fq)] [0, 1, 2] hr dX8_bitAt_54 rfl rfl (nl rfl) (nl rfl) ⟨z_12, rfl, rfl, (by first | omega | rfl | assumption)⟩
    ·
      refine v_iload_n fx 2 dX8_bitAt_37 rfl rfl ?_
      refine v_bipush fx dX8_bitAt_38 (by decide +kernel) rfl ?_
      refine v_irem fx (iI (i % 8)) dX8_bitAt_40 (by decide) (iI_rem (by omega) 8 (by decide) (by decide)) rfl ?_
      refine v_goto fx 51 dX8_bitAt_41 (by decide) ?_
      obtain ⟨t_13, et_13⟩ : ∃ x9 : Int32, (fq (i / 8).toNat) >>> ((iI (i % 8)) &&& 31) = x9 := ⟨_, rfl⟩
      refine v_ishr fx t_13 dX8_bitAt_51 et_13 rfl ?_
      refine v_iconst fx dX8_bitAt_52 rfl ?_
      obtain ⟨t_14, et_14⟩ : ∃ x9 : Int32, t_13 &&& (iI 1) = x9 := ⟨_, rfl⟩
      refine v_iand fx t_14 dX8_bitAt_53 et_14 rfl ?_
      refine v_any (fun z_15 hz_15 ez_15 => ?_)
      have hb1 := and1_b (by assumption) ez_15 hz_15
      exact v_iret fx [(h0, ob 8 [.ref xa, .ref xb, .ref xc, .ref xd, .ref xe, .ref xf, .ref xg, .int (iI vc), .int (iI vk), .int (iI vw), .ref xm, .ref xv, .int (iI vg), .ref xw, .int (iI vb), .int (iI vi), .ref xq, .int (iI ve), .int (iI vf), .int (iI vu), .int (iI vl), .ref xr, .ref xh, .ref xo, .ref xp, .int (iI vr), .int (iI va), .int (iI vt), .int (iI vm), .int (iI vd), .int (iI vx)]), (xw, aI g 72000 f), (xq, aI g 2000 fq)] [0, 1, 2] hr dX8_bitAt_54 rfl rfl (nl rfl) (nl rfl) ⟨z_15, rfl, rfl, (by first | omega | rfl | assumption)⟩
theorem dX8_behindMark_0 : decode cX8_behindMark 0 = .ok (.iload_n 1, 1) := by decide +kernel
theorem dX8_behindMark_1 : decode cX8_behindMark 1 = .ok (.istore_n 2, 1) := by decide +kernel
theorem dX8_behindMark_2 : decode cX8_behindMark 2 = .ok (.iload_n 2, 1) := by decide +kernel
theorem dX8_behindMark_3 : decode cX8_behindMark 3 = .ok (.aload_n 0, 1) := by decide +kernel
theorem dX8_behindMark_4 : decode cX8_behindMark 4 = .ok (.getfield 129, 3) := by decide +kernel
theorem dX8_behindMark_7 : decode cX8_behindMark 7 = .ok (.if_icmp .ge 17, 3) := by decide +kernel
theorem dX8_behindMark_10 : decode cX8_behindMark 10 = .ok (.aload_n 0, 1) := by decide +kernel
theorem dX8_behindMark_11 : decode cX8_behindMark 11 = .ok (.iload_n 2, 1) := by decide +kernel
theorem dX8_behindMark_12 : decode cX8_behindMark 12 = .ok (.invokevirtual 132, 3) := by decide +kernel
theorem dX8_behindMark_15 : decode cX8_behindMark 15 = .ok (.ifCond .ne 9, 3) := by decide +kernel
theorem dX8_behindMark_18 : decode cX8_behindMark 18 = .ok (.iinc 2 1, 3) := by decide +kernel
theorem dX8_behindMark_21 : decode cX8_behindMark 21 = .ok (.goto (-19), 3) := by decide +kernel
theorem dX8_behindMark_24 : decode cX8_behindMark 24 = .ok (.iload_n 2, 1) := by decide +kernel
theorem dX8_behindMark_25 : decode cX8_behindMark 25 = .ok (.aload_n 0, 1) := by decide +kernel
theorem dX8_behindMark_26 : decode cX8_behindMark 26 = .ok (.getfield 129, 3) := by decide +kernel
theorem dX8_behindMark_29 : decode cX8_behindMark 29 = .ok (.if_icmp .ge 17, 3) := by decide +kernel
theorem dX8_behindMark_32 : decode cX8_behindMark 32 = .ok (.iload_n 2, 1) := by decide +kernel
theorem dX8_behindMark_33 : decode cX8_behindMark 33 = .ok (.iload_n 1, 1) := by decide +kernel
theorem dX8_behindMark_34 : decode cX8_behindMark 34 = .ok (.isub, 1) := by decide +kernel
theorem dX8_behindMark_35 : decode cX8_behindMark 35 = .ok (.bipush 11, 2) := by decide +kernel
theorem dX8_behindMark_37 : decode cX8_behindMark 37 = .ok (.if_icmp .lt 9, 3) := by decide +kernel
theorem dX8_behindMark_40 : decode cX8_behindMark 40 = .ok (.iload_n 2, 1) := by decide +kernel
theorem dX8_behindMark_41 : decode cX8_behindMark 41 = .ok (.iconst 1, 1) := by decide +kernel
theorem dX8_behindMark_42 : decode cX8_behindMark 42 = .ok (.iadd, 1) := by decide +kernel
theorem dX8_behindMark_43 : decode cX8_behindMark 43 = .ok (.goto 4, 3) := by decide +kernel
theorem dX8_behindMark_46 : decode cX8_behindMark 46 = .ok (.iconst 0, 1) := by decide +kernel
theorem dX8_behindMark_47 : decode cX8_behindMark 47 = .ok (.ireturn, 1) := by decide +kernel
abbrev po_c_X8_behindMark (g : GG) (h0 : Nat) (xa : Nat) (xb : Nat) (xc : Nat) (xd : Nat) (xe : Nat) (xf : Nat) (xg : Nat) (xm : Nat) (xv : Nat) (xw : Nat) (xq : Nat) (xr : Nat) (xh : Nat) (xo : Nat) (xp : Nat) (vc : Int) (vk : Int) (vw : Int) (vg : Int) (vb : Int) (vi : Int) (ve : Int) (vf : Int) (vu : Int) (vl : Int) (vr : Int) (va : Int) (vt : Int) (vm : Int) (vd : Int) (vx : Int) (f : Nat → Int32) (fq : Nat → Int32) (x : Int) : Option Value → va_W → Prop := fun v8 w8 => ∃ r : Int, v8 = some (.int (iI r)) ∧ w8 = [(h0, ob 8 [.ref xa, .ref xb, .ref xc, .ref xd, .ref xe, .ref xf, .ref xg, .int (iI vc), .int (iI vk), .int (iI vw), .ref xm, .ref xv, .int (iI vg), .ref xw, .int (iI vb), .int (iI vi), .ref xq, .int (iI ve), .int (iI vf), .int (iI vu), .int (iI vl), .ref xr, .ref xh, .ref xo, .ref xp, .int (iI vr), .int (iI va), .int (iI vt), .int (iI vm), .int (iI vd), .int (iI vx)]), (xw, aI g 72000 f), (xq, aI g 2000 fq)] ∧ (0 ≤ r ∧ r ≤ vt)
set_option maxHeartbeats 4000000 in
set_option maxRecDepth 100000 in
theorem c_X8_behindMark (l : Launch) (g : GG) (h0 : Nat) (xa : Nat) (xb : Nat) (xc : Nat) (xd : Nat) (xe : Nat) (xf : Nat) (xg : Nat) (xm : Nat) (xv : Nat) (xw : Nat) (xq : Nat) (xr : Nat) (xh : Nat) (xo : Nat) (xp : Nat) (vc : Int) (vk : Int) (vw : Int) (vg : Int) (vb : Int) (vi : Int) (ve : Int) (vf : Int) (vu : Int) (vl : Int) (vr : Int) (va : Int) (vt : Int) (vm : Int) (vd : Int) (vx : Int) (f : Nat → Int32) (fq : Nat → Int32) (x : Int) (hp0 : sOk vm vt) (hp1 : 0 ≤ vt ∧ vt ≤ 576000) (hp2 : 0 ≤ vl ∧ vl ≤ 1) (hp3 : 0 ≤ vm ∧ vm ≤ 1) (hp4 : 0 ≤ x ∧ x ≤ vt) : Ct l g yX8_behindMark (wM yX8_behindMark cX8_behindMark 3 (some .int)) (rmD 1 0 0) [.ref h0, .int (iI x)] [(h0, ob 8 [.ref xa, .ref xb, .ref xc, .ref xd, .ref xe, .ref xf, .ref xg, .int (iI vc), .int (iI vk), .int (iI vw), .ref xm, .ref xv, .int (iI vg), .ref xw, .int (iI vb), .int (iI vi), .ref xq, .int (iI ve), .int (iI vf), .int (iI vu), .int (iI vl), .ref xr, .ref xh, .ref xo, .ref xp, .int (iI vr), .int (iI va), .int (iI vt), .int (iI vm), .int (iI vd), .int (iI vx)]), (xw, aI g 72000 f), (xq, aI g 2000 fq)] (po_c_X8_behindMark g h0 xa xb xc xd xe xf xg xm xv xw xq xr xh xo xp vc vk vw vg vb vi ve vf vu vl vr va vt vm vd vx f fq x) := by
  refine Ct_of (by decide +kernel) (Nat.le_of_ble_eq_true rfl) ?_
  intro p9 e9 s9 m9 ag9 bl9 mt9 c9 A9 fx hr hnm
  refine v_iload_n fx 1 dX8_behindMark_0 rfl rfl ?_
  refine v_istore_n fx [(2, .int (iI x)), (0, .ref h0), (1, .int (iI x))] dX8_behindMark_1 (by decide) rfl rfl ?_
  have L2 : ∀ (N : Nat) (p : Int), (x ≤ p ∧ p ≤ vt) → ((vt - p).toNat) < N → V p9 l e9 (rmD 1 0 0) s9 m9 ag9 bl9 mt9 c9 3 g A9 (MQ bl9 (cQ g (po_c_X8_behindMark g h0 xa xb xc xd xe xf xg xm xv xw xq xr xh xo xp vc vk vw vg vb vi ve vf vu vl vr va vt vm vd vx f fq x) A9) ag9 s9 0 0 A9) [(h0, ob 8 [.ref xa, .ref xb, .ref xc, .ref xd, .ref xe, .ref xf, .ref xg, .int (iI vc), .int (iI vk), .int (iI vw), .ref xm, .ref xv, .int (iI vg), .ref xw, .int (iI vb), .int (iI vi), .ref xq, .int (iI ve), .int (iI vf), .int (iI vu), .int (iI vl), .ref xr, .ref xh, .ref xo, .ref xp, .int (iI vr), .int (iI va), .int (iI vt), .int (iI vm), .int (iI vd), .int (iI vx)]), (xw, aI g 72000 f), (xq, aI g 2000 fq)] 0 0 [(0, .ref h0), (1, .int (iI x)), (2, .int (iI p))] 2 [] := by
    intro N
    induction N with
    | zero => intro p hi2_0 hN; exact absurd hN (Nat.not_lt_zero _)
    | succ N ihL2 =>
      intro p hi2_0 hN2
      refine v_iload_n fx 2 dX8_behindMark_2 rfl rfl ?_
      refine v_aload_n fx 0 dX8_behindMark_3 rfl rfl ?_
      refine v_get fx 0 27 inX8 k1023 dX8_behindMark_4 rfl rfl (by decide) rfl rfl rfl ?_
      refine v_icmp_ge fx 24 dX8_behindMark_7 (by decide) rfl (by omega) (by omega) (fun h_1 => ?_) (fun h_1 => ?_)
      ·
        refine v_iload_n fx 2 dX8_behindMark_24 rfl rfl ?_
        refine v_aload_n fx 0 dX8_behindMark_25 rfl rfl ?_
        refine v_get fx 0 27 inX8 k1023 dX8_behindMark_26 rfl rfl (by decide) rfl rfl rfl ?_
        refine v_icmp_ge fx 46 dX8_behindMark_29 (by decide) rfl (by omega) (by omega) (fun h_2 => ?_) (fun h_2 => ?_)
        ·
          refine v_iconst fx dX8_behindMark_46 rfl ?_
          exact v_iret fx [(h0, ob 8 [.ref xa, .ref xb, .ref xc, .ref xd, .ref xe, .ref xf, .ref xg, .int (iI vc), .int (iI vk), .int (iI vw), .ref xm, .ref xv, .int (iI vg), .ref xw, .int (iI vb), .int (iI vi), .ref xq, .int (iI ve), .int (iI vf), .int (iI vu), .int (iI vl), .ref xr, .ref xh, .ref xo, .ref xp, .int (iI vr), .int (iI va), .int (iI vt), .int (iI vm), .int (iI vd), .int (iI vx)]), (xw, aI g 72000 f), (xq, aI g 2000 fq)] [0, 1, 2] hr dX8_behindMark_47 rfl rfl (nl rfl) (nl rfl) ⟨0, rfl, rfl, (by first | omega | rfl | assumption)⟩
        ·
          refine v_iload_n fx 2 dX8_behindMark_32 rfl rfl ?_
          refine v_iload_n fx 1 dX8_behindMark_33 rfl rfl ?_
          refine v_isub fx (p - x) dX8_behindMark_34 (by rfl) rfl ?_
          refine v_bipush fx dX8_behindMark_35 (by decide +kernel) rfl ?_
          refine v_icmp_lt fx 46 dX8_behindMark_37 (by decide) rfl (by omega) (by omega) (fun h_3 => ?_) (fun h_3 => ?_)
          ·
            refine v_iconst fx dX8_behindMark_46 rfl ?_
            exact v_iret fx [(h0, ob 8 [.ref xa, .ref xb, .ref xc, .ref xd, .ref xe, .ref xf, .ref xg, .int (iI vc), .int (iI vk), .int (iI vw), .ref xm, .ref xv, .int (iI vg), .ref xw, .int (iI vb), .int (iI vi), .ref xq, .int (iI ve), .int (iI vf), .int (iI vu), .int (iI vl), .ref xr, .ref xh, .ref xo, .ref xp, .int (iI vr), .int (iI va), .int (iI vt), .int (iI vm), .int (iI vd), .int (iI vx)]), (xw, aI g 72000 f), (xq, aI g 2000 fq)] [0, 1, 2] hr dX8_behindMark_47 rfl rfl (nl rfl) (nl rfl) ⟨0, rfl, rfl, (by first | omega | rfl | assumption)⟩
          ·
            refine v_iload_n fx 2 dX8_behindMark_40 rfl rfl ?_
            refine v_iconst fx dX8_behindMark_41 rfl ?_
            refine v_iadd fx (p + 1) dX8_behindMark_42 (by rfl) rfl ?_
            refine v_goto fx 47 dX8_behindMark_43 (by decide) ?_
            exact v_iret fx [(h0, ob 8 [.ref xa, .ref xb, .ref xc, .ref xd, .ref xe, .ref xf, .ref xg, .int (iI vc), .int (iI vk), .int (iI vw), .ref xm, .ref xv, .int (iI vg), .ref xw, .int (iI vb), .int (iI vi), .ref xq, .int (iI ve), .int (iI vf), .int (iI vu), .int (iI vl), .ref xr, .ref xh, .ref xo, .ref xp, .int (iI vr), .int (iI va), .int (iI vt), .int (iI vm), .int (iI vd), .int (iI vx)]), (xw, aI g 72000 f), (xq, aI g 2000 fq)] [0, 1, 2] hr dX8_behindMark_47 rfl rfl (nl rfl) (nl rfl) ⟨(p + 1), rfl, rfl, (by first | omega | rfl | assumption)⟩
      ·
        refine v_aload_n fx 0 dX8_behindMark_10 rfl rfl ?_
        refine v_iload_n fx 2 dX8_behindMark_11 rfl rfl ?_
        refine v_callV (As := [.int (iI p)]) (rest := []) fx [0, 1, 2] [] [(h0, ob 8 [.ref xa, .ref xb, .ref xc, .ref xd, .ref xe, .ref xf, .ref xg, .int (iI vc), .int (iI vk), .int (iI vw), .ref xm, .ref xv, .int (iI vg), .ref xw, .int (iI vb), .int (iI vi), .ref xq, .int (iI ve), .int (iI vf), .int (iI vu), .int (iI vl), .ref xr, .ref xh, .ref xo, .ref xp, .int (iI vr), .int (iI va), .int (iI vt), .int (iI vm), .int (iI vd), .int (iI vx)]), (xw, aI g 72000 f), (xq, aI g 2000 fq)] [] 1 0 (c_X8_bitAt l g h0 xa xb xc xd xe xf xg xm xv xw xq xr xh xo xp vc vk vw vg vb vi ve vf vu vl vr va vt vm vd vx f fq p (by first | omega | decide | assumption) (by first | omega | decide | assumption) (by first | omega | decide | assumption) (by first | omega | decide | assumption) (by first | omega | decide | assumption)) dX8_behindMark_12 k1166 k1168 k34 k57 k1169 ykX8_bitAt rfl rfl rfl rfl rfl rfl rfl rfl (nl rfl) ⟨nl rfl, nl rfl⟩ ⟨(nl rfl), (nl rfl)⟩ rfl (fun v9 w9 hu => ?_)
        obtain ⟨r_4, rfl, rfl, u_5⟩ := hu
        refine v_is (wn := [(h0, ob 8 [.ref xa, .ref xb, .ref xc, .ref xd, .ref xe, .ref xf, .ref xg, .int (iI vc), .int (iI vk), .int (iI vw), .ref xm, .ref xv, .int (iI vg), .ref xw, .int (iI vb), .int (iI vi), .ref xq, .int (iI ve), .int (iI vf), .int (iI vu), .int (iI vl), .ref xr, .ref xh, .ref xo, .ref xp, .int (iI vr), .int (iI va), .int (iI vt), .int (iI vm), .int (iI vd), .int (iI vx)]), (xw, aI g 72000 f), (xq, aI g 2000 fq)]) (cn := 0) (sn := 0) (sn2 := [.int (iI r_4)]) rfl rfl rfl rfl ?_
        refine v_if_ne fx 24 dX8_behindMark_15 (by decide) rfl (by omega) (fun h_6 => ?_) (fun h_6 => ?_)
        ·
          refine v_iload_n fx 2 dX8_behindMark_24 rfl rfl ?_
          refine v_aload_n fx 0 dX8_behindMark_25 rfl rfl ?_
          refine v_get fx 0 27 inX8 k1023 dX8_behindMark_26 rfl rfl (by decide) rfl rfl rfl ?_
          refine v_icmp_ge fx 46 dX8_behindMark_29 (by decide) rfl (by omega) (by omega) (fun h_7 => ?_) (fun h_7 => ?_)
          ·
            refine v_iconst fx dX8_behindMark_46 rfl ?_
            exact v_iret fx [(h0, ob 8 [.ref xa, .ref xb, .ref xc, .ref xd, .ref xe, .ref xf, .ref xg, .int (iI vc), .int (iI vk), .int (iI vw), .ref xm, .ref xv, .int (iI vg), .ref xw, .int (iI vb), .int (iI vi), .ref xq, .int (iI ve), .int (iI vf), .int (iI vu), .int (iI vl), .ref xr, .ref xh, .ref xo, .ref xp, .int (iI vr), .int (iI va), .int (iI vt), .int (iI vm), .int (iI vd), .int (iI vx)]), (xw, aI g 72000 f), (xq, aI g 2000 fq)] [0, 1, 2] hr dX8_behindMark_47 rfl rfl (nl rfl) (nl rfl) ⟨0, rfl, rfl, (by first | omega | rfl | assumption)⟩
          ·
            refine v_iload_n fx 2 dX8_behindMark_32 rfl rfl ?_
            refine v_iload_n fx 1 dX8_behindMark_33 rfl rfl ?_
            refine v_isub fx (p - x) dX8_behindMark_34 (by rfl) rfl ?_
            refine v_bipush fx dX8_behindMark_35 (by decide +kernel) rfl ?_
            refine v_icmp_lt fx 46 dX8_behindMark_37 (by decide) rfl (by omega) (by omega) (fun h_8 => ?_) (fun h_8 => ?_)
            ·
              refine v_iconst fx dX8_behindMark_46 rfl ?_
              exact v_iret fx [(h0, ob 8 [.ref xa, .ref xb, .ref xc, .ref xd, .ref xe, .ref xf, .ref xg, .int (iI vc), .int (iI vk), .int (iI vw), .ref xm, .ref xv, .int (iI vg), .ref xw, .int (iI vb), .int (iI vi), .ref xq, .int (iI ve), .int (iI vf), .int (iI vu), .int (iI vl), .ref xr, .ref xh, .ref xo, .ref xp, .int (iI vr), .int (iI va), .int (iI vt), .int (iI vm), .int (iI vd), .int (iI vx)]), (xw, aI g 72000 f), (xq, aI g 2000 fq)] [0, 1, 2] hr dX8_behindMark_47 rfl rfl (nl rfl) (nl rfl) ⟨0, rfl, rfl, (by first | omega | rfl | assumption)⟩
            ·
              refine v_iload_n fx 2 dX8_behindMark_40 rfl rfl ?_
              refine v_iconst fx dX8_behindMark_41 rfl ?_
              refine v_iadd fx (p + 1) dX8_behindMark_42 (by rfl) rfl ?_
              refine v_goto fx 47 dX8_behindMark_43 (by decide) ?_
              exact v_iret fx [(h0, ob 8 [.ref xa, .ref xb, .ref xc, .ref xd, .ref xe, .ref xf, .ref xg, .int (iI vc), .int (iI vk), .int (iI vw), .ref xm, .ref xv, .int (iI vg), .ref xw, .int (iI vb), .int (iI vi), .ref xq, .int (iI ve), .int (iI vf), .int (iI vu), .int (iI vl), .ref xr, .ref xh, .ref xo, .ref xp, .int (iI vr), .int (iI va), .int (iI vt), .int (iI vm), .int (iI vd), .int (iI vx)]), (xw, aI g 72000 f), (xq, aI g 2000 fq)] [0, 1, 2] hr dX8_behindMark_47 rfl rfl (nl rfl) (nl rfl) ⟨(p + 1), rfl, rfl, (by first | omega | rfl | assumption)⟩
        ·
          refine v_iinc fx 2 (p + 1) [(2, .int (iI (p + 1))), (0, .ref h0), (1, .int (iI x))] dX8_behindMark_18 rfl (by omega) (by decide) rfl rfl ?_
          refine v_goto fx 2 dX8_behindMark_21 (by decide) ?_
          refine v_lv [1, 2, 0] [(0, .ref h0), (1, .int (iI x)), (2, .int (iI (p + 1)))] rfl ?_
          exact ihL2 (p + 1) (by omega) (by omega)
  refine v_lv [1, 2, 0] [(0, .ref h0), (1, .int (iI x)), (2, .int (iI x))] rfl ?_
  exact L2 _ x (by omega) (Nat.lt_succ_self _)
theorem dX8_findMark_0 : decode cX8_findMark 0 = .ok (.iload_n 1, 1) := by decide +kernel
theorem dX8_findMark_1 : decode cX8_findMark 1 = .ok (.istore_n 2, 1) := by decide +kernel
theorem dX8_findMark_2 : decode cX8_findMark 2 = .ok (.iload_n 2, 1) := by decide +kernel
theorem dX8_findMark_3 : decode cX8_findMark 3 = .ok (.aload_n 0, 1) := by decide +kernel
theorem dX8_findMark_4 : decode cX8_findMark 4 = .ok (.getfield 129, 3) := by decide +kernel
theorem dX8_findMark_7 : decode cX8_findMark 7 = .ok (.if_icmp .ge 43, 3) := by decide +kernel
theorem dX8_findMark_10 : decode cX8_findMark 10 = .ok (.aload_n 0, 1) := by decide +kernel
theorem dX8_findMark_11 : decode cX8_findMark 11 = .ok (.iload_n 2, 1) := by decide +kernel
theorem dX8_findMark_12 : decode cX8_findMark 12 = .ok (.invokevirtual 136, 3) := by decide +kernel
theorem dX8_findMark_15 : decode cX8_findMark 15 = .ok (.istore_n 3, 1) := by decide +kernel
theorem dX8_findMark_16 : decode cX8_findMark 16 = .ok (.iload_n 3, 1) := by decide +kernel
theorem dX8_findMark_17 : decode cX8_findMark 17 = .ok (.ifCond .le 5, 3) := by decide +kernel
theorem dX8_findMark_20 : decode cX8_findMark 20 = .ok (.iload_n 3, 1) := by decide +kernel
theorem dX8_findMark_21 : decode cX8_findMark 21 = .ok (.ireturn, 1) := by decide +kernel
theorem dX8_findMark_22 : decode cX8_findMark 22 = .ok (.iload_n 2, 1) := by decide +kernel
theorem dX8_findMark_23 : decode cX8_findMark 23 = .ok (.aload_n 0, 1) := by decide +kernel
theorem dX8_findMark_24 : decode cX8_findMark 24 = .ok (.getfield 129, 3) := by decide +kernel
theorem dX8_findMark_27 : decode cX8_findMark 27 = .ok (.if_icmp .ge 17, 3) := by decide +kernel
theorem dX8_findMark_30 : decode cX8_findMark 30 = .ok (.aload_n 0, 1) := by decide +kernel
theorem dX8_findMark_31 : decode cX8_findMark 31 = .ok (.iload_n 2, 1) := by decide +kernel
theorem dX8_findMark_32 : decode cX8_findMark 32 = .ok (.invokevirtual 132, 3) := by decide +kernel
theorem dX8_findMark_35 : decode cX8_findMark 35 = .ok (.ifCond .ne 9, 3) := by decide +kernel
theorem dX8_findMark_38 : decode cX8_findMark 38 = .ok (.iinc 2 1, 3) := by decide +kernel
theorem dX8_findMark_41 : decode cX8_findMark 41 = .ok (.goto (-19), 3) := by decide +kernel
theorem dX8_findMark_44 : decode cX8_findMark 44 = .ok (.iinc 2 1, 3) := by decide +kernel
theorem dX8_findMark_47 : decode cX8_findMark 47 = .ok (.goto (-45), 3) := by decide +kernel
theorem dX8_findMark_50 : decode cX8_findMark 50 = .ok (.iconst 0, 1) := by decide +kernel
theorem dX8_findMark_51 : decode cX8_findMark 51 = .ok (.ireturn, 1) := by decide +kernel
abbrev po_c_X8_findMark (g : GG) (h0 : Nat) (xa : Nat) (xb : Nat) (xc : Nat) (xd : Nat) (xe : Nat) (xf : Nat) (xg : Nat) (xm : Nat) (xv : Nat) (xw : Nat) (xq : Nat) (xr : Nat) (xh : Nat) (xo : Nat) (xp : Nat) (vc : Int) (vk : Int) (vw : Int) (vg : Int) (vb : Int) (vi : Int) (ve : Int) (vf : Int) (vu : Int) (vl : Int) (vr : Int) (va : Int) (vt : Int) (vm : Int) (vd : Int) (vx : Int) (f : Nat → Int32) (fq : Nat → Int32) (x : Int) : Option Value → va_W → Prop := fun v8 w8 => ∃ r : Int, v8 = some (.int (iI r)) ∧ w8 = [(h0, ob 8 [.ref xa, .ref xb, .ref xc, .ref xd, .ref xe, .ref xf, .ref xg, .int (iI vc), .int (iI vk), .int (iI vw), .ref xm, .ref xv, .int (iI vg), .ref xw, .int (iI vb), .int (iI vi), .ref xq, .int (iI ve), .int (iI vf), .int (iI vu), .int (iI vl), .ref xr, .ref xh, .ref xo, .ref xp, .int (iI vr), .int (iI va), .int (iI vt), .int (iI vm), .int (iI vd), .int (iI vx)]), (xw, aI g 72000 f), (xq, aI g 2000 fq)] ∧ (0 ≤ r ∧ r ≤ vt)
set_option maxHeartbeats 4000000 in
set_option maxRecDepth 100000 in
theorem c_X8_findMark (l : Launch) (g : GG) (h0 : Nat) (xa : Nat) (xb : Nat) (xc : Nat) (xd : Nat) (xe : Nat) (xf : Nat) (xg : Nat) (xm : Nat) (xv : Nat) (xw : Nat) (xq : Nat) (xr : Nat) (xh : Nat) (xo : Nat) (xp : Nat) (vc : Int) (vk : Int) (vw : Int) (vg : Int) (vb : Int) (vi : Int) (ve : Int) (vf : Int) (vu : Int) (vl : Int) (vr : Int) (va : Int) (vt : Int) (vm : Int) (vd : Int) (vx : Int) (f : Nat → Int32) (fq : Nat → Int32) (x : Int) (hp0 : sOk vm vt) (hp1 : 0 ≤ vt ∧ vt ≤ 576000) (hp2 : 0 ≤ vl ∧ vl ≤ 1) (hp3 : 0 ≤ vm ∧ vm ≤ 1) (hp4 : 0 ≤ x ∧ x ≤ vt) : Ct l g yX8_findMark (wM yX8_findMark cX8_findMark 4 (some .int)) (rmD 2 0 0) [.ref h0, .int (iI x)] [(h0, ob 8 [.ref xa, .ref xb, .ref xc, .ref xd, .ref xe, .ref xf, .ref xg, .int (iI vc), .int (iI vk), .int (iI vw), .ref xm, .ref xv, .int (iI vg), .ref xw, .int (iI vb), .int (iI vi), .ref xq, .int (iI ve), .int (iI vf), .int (iI vu), .int (iI vl), .ref xr, .ref xh, .ref xo, .ref xp, .int (iI vr), .int (iI va), .int (iI vt), .int (iI vm), .int (iI vd), .int (iI vx)]), (xw, aI g 72000 f), (xq, aI g 2000 fq)] (po_c_X8_findMark g h0 xa xb xc xd xe xf xg xm xv xw xq xr xh xo xp vc vk vw vg vb vi ve vf vu vl vr va vt vm vd vx f fq x) := by
  refine Ct_of (by decide +kernel) (Nat.le_of_ble_eq_true rfl) ?_
  intro p9 e9 s9 m9 ag9 bl9 mt9 c9 A9 fx hr hnm
  refine v_iload_n fx 1 dX8_findMark_0 rfl rfl ?_
  refine v_istore_n fx [(2, .int (iI x)), (0, .ref h0), (1, .int (iI x))] dX8_findMark_1 (by decide) rfl rfl ?_
  have L2 : ∀ (N : Nat) (p : Int), (0 ≤ p ∧ p ≤ vt + 1) → ((vt + 1 - p).toNat) < N → V p9 l e9 (rmD 2 0 0) s9 m9 ag9 bl9 mt9 c9 4 g A9 (MQ bl9 (cQ g (po_c_X8_findMark g h0 xa xb xc xd xe xf xg xm xv xw xq xr xh xo xp vc vk vw vg vb vi ve vf vu vl vr va vt vm vd vx f fq x) A9) ag9 s9 0 0 A9) [(h0, ob 8 [.ref xa, .ref xb, .ref xc, .ref xd, .ref xe, .ref xf, .ref xg, .int (iI vc), .int (iI vk), .int (iI vw), .ref xm, .ref xv, .int (iI vg), .ref xw, .int (iI vb), .int (iI vi), .ref xq, .int (iI ve), .int (iI vf), .int (iI vu), .int (iI vl), .ref xr, .ref xh, .ref xo, .ref xp, .int (iI vr), .int (iI va), .int (iI vt), .int (iI vm), .int (iI vd), .int (iI vx)]), (xw, aI g 72000 f), (xq, aI g 2000 fq)] 0 0 [(0, .ref h0), (1, .int (iI x)), (2, .int (iI p))] 2 [] := by
    intro N
    induction N with
    | zero => intro p hi2_0 hN; exact absurd hN (Nat.not_lt_zero _)
    | succ N ihL2 =>
      intro p hi2_0 hN2
      refine v_iload_n fx 2 dX8_findMark_2 rfl rfl ?_
      refine v_aload_n fx 0 dX8_findMark_3 rfl rfl ?_
      refine v_get fx 0 27 inX8 k1023 dX8_findMark_4 rfl rfl (by decide) rfl rfl rfl ?_
      refine v_icmp_ge fx 50 dX8_findMark_7 (by decide) rfl (by omega) (by omega) (fun h_1 => ?_) (fun h_1 => ?_)
      ·
        refine v_iconst fx dX8_findMark_50 rfl ?_
        exact v_iret fx [(h0, ob 8 [.ref xa, .ref xb, .ref xc, .ref xd, .ref xe, .ref xf, .ref xg, .int (iI vc), .int (iI vk), .int (iI vw), .ref xm, .ref xv, .int (iI vg), .ref xw, .int (iI vb), .int (iI vi), .ref xq, .int (iI ve), .int (iI vf), .int (iI vu), .int (iI vl), .ref xr, .ref xh, .ref xo, .ref xp, .int (iI vr), .int (iI va), .int (iI vt), .int (iI vm), .int (iI vd), .int (iI vx)]), (xw, aI g 72000 f), (xq, aI g 2000 fq)] [0, 1, 2] hr dX8_findMark_51 rfl rfl (nl rfl) (nl rfl) ⟨0, rfl, rfl, (by first | omega | rfl | assumption)⟩
      ·
        refine v_aload_n fx 0 dX8_findMark_10 rfl rfl ?_
        refine v_iload_n fx 2 dX8_findMark_11 rfl rfl ?_
        refine v_callV (As := [.int (iI p)]) (rest := []) fx [0, 1, 2] [] [(h0, ob 8 [.ref xa, .ref xb, .ref xc, .ref xd, .ref xe, .ref xf, .ref xg, .int (iI vc), .int (iI vk), .int (iI vw), .ref xm, .ref xv, .int (iI vg), .ref xw, .int (iI vb), .int (iI vi), .ref xq, .int (iI ve), .int (iI vf), .int (iI vu), .int (iI vl), .ref xr, .ref xh, .ref xo, .ref xp, .int (iI vr), .int (iI va), .int (iI vt), .int (iI vm), .int (iI vd), .int (iI vx)]), (xw, aI g 72000 f), (xq, aI g 2000 fq)] [] 1 0 (c_X8_behindMark l g h0 xa xb xc xd xe xf xg xm xv xw xq xr xh xo xp vc vk vw vg vb vi ve vf vu vl vr va vt vm vd vx f fq p (by first | omega | decide | assumption) (by first | omega | decide | assumption) (by first | omega | decide | assumption) (by first | omega | decide | assumption) (by first | omega | decide | assumption)) dX8_findMark_12 k1206 k1208 k44 k57 k1209 ykX8_behindMark rfl rfl rfl rfl rfl rfl rfl rfl (nl rfl) ⟨nl rfl, nl rfl⟩ ⟨(nl rfl), (nl rfl)⟩ rfl (fun v9 w9 hu => ?_)
        obtain ⟨r_2, rfl, rfl, u_3⟩ := hu
        refine v_is (wn := [(h0, ob 8 [.ref xa, .ref xb, .ref xc, .ref xd, .ref xe, .ref xf, .ref xg, .int (iI vc), .int (iI vk), .int (iI vw), .ref xm, .ref xv, .int (iI vg), .ref xw, .int (iI vb), .int (iI vi), .ref xq, .int (iI ve), .int (iI vf), .int (iI vu), .int (iI vl), .ref xr, .ref xh, .ref xo, .ref xp, .int (iI vr), .int (iI va), .int (iI vt), .int (iI vm), .int (iI vd), .int (iI vx)]), (xw, aI g 72000 f), (xq, aI g 2000 fq)]) (cn := 0) (sn := 0) (sn2 := [.int (iI r_2)]) rfl rfl rfl rfl ?_
        refine v_istore_n fx [(3, .int (iI r_2)), (0, .ref h0), (1, .int (iI x)), (2, .int (iI p))] dX8_findMark_15 (by decide) rfl rfl ?_
        refine v_iload_n fx 0 dX8_findMark_16 rfl rfl ?_
        refine v_if_le fx 22 dX8_findMark_17 (by decide) rfl (by omega) (fun h_4 => ?_) (fun h_4 => ?_)
        ·
          have L22 : ∀ (N : Nat) (t : Int), (p ≤ t ∧ t ≤ vt) → ((vt - t).toNat) < N → V p9 l e9 (rmD 2 0 0) s9 m9 ag9 bl9 mt9 c9 4 g A9 (MQ bl9 (cQ g (po_c_X8_findMark g h0 xa xb xc xd xe xf xg xm xv xw xq xr xh xo xp vc vk vw vg vb vi ve vf vu vl vr va vt vm vd vx f fq x) A9) ag9 s9 0 0 A9) [(h0, ob 8 [.ref xa, .ref xb, .ref xc, .ref xd, .ref xe, .ref xf, .ref xg, .int (iI vc), .int (iI vk), .int (iI vw), .ref xm, .ref xv, .int (iI vg), .ref xw, .int (iI vb), .int (iI vi), .ref xq, .int (iI ve), .int (iI vf), .int (iI vu), .int (iI vl), .ref xr, .ref xh, .ref xo, .ref xp, .int (iI vr), .int (iI va), .int (iI vt), .int (iI vm), .int (iI vd), .int (iI vx)]), (xw, aI g 72000 f), (xq, aI g 2000 fq)] 0 0 [(0, .ref h0), (1, .int (iI x)), (2, .int (iI t))] 22 [] := by
            intro N
            induction N with
            | zero => intro t hi22_0 hN; exact absurd hN (Nat.not_lt_zero _)
            | succ N ihL22 =>
              intro t hi22_0 hN22
              refine v_iload_n fx 2 dX8_findMark_22 rfl rfl ?_
              refine v_aload_n fx 0 dX8_findMark_23 rfl rfl ?_
              refine v_get fx 0 27 inX8 k1023 dX8_findMark_24 rfl rfl (by decide) rfl rfl rfl ?_
              refine v_icmp_ge fx 44 dX8_findMark_27 (by decide) rfl (by omega) (by omega) (fun h_5 => ?_) (fun h_5 => ?_)
              ·
                refine v_iinc fx 2 (t + 1) [(2, .int (iI (t + 1))), (0, .ref h0), (1, .int (iI x))] dX8_findMark_44 rfl (by omega) (by decide) rfl rfl ?_
                refine v_goto fx 2 dX8_findMark_47 (by decide) ?_
                refine v_lv [1, 2, 0] [(0, .ref h0), (1, .int (iI x)), (2, .int (iI (t + 1)))] rfl ?_
                exact ihL2 (t + 1) (by omega) (by omega)
              ·
                refine v_aload_n fx 0 dX8_findMark_30 rfl rfl ?_
                refine v_iload_n fx 2 dX8_findMark_31 rfl rfl ?_
                refine v_callV (As := [.int (iI t)]) (rest := []) fx [0, 1, 2] [] [(h0, ob 8 [.ref xa, .ref xb, .ref xc, .ref xd, .ref xe, .ref xf, .ref xg, .int (iI vc), .int (iI vk), .int (iI vw), .ref xm, .ref xv, .int (iI vg), .ref xw, .int (iI vb), .int (iI vi), .ref xq, .int (iI ve), .int (iI vf), .int (iI vu), .int (iI vl), .ref xr, .ref xh, .ref xo, .ref xp, .int (iI vr), .int (iI va), .int (iI vt), .int (iI vm), .int (iI vd), .int (iI vx)]), (xw, aI g 72000 f), (xq, aI g 2000 fq)] [] 1 0 (c_X8_bitAt l g h0 xa xb xc xd xe xf xg xm xv xw xq xr xh xo xp vc vk vw vg vb vi ve vf vu vl vr va vt vm vd vx f fq t (by first | omega | decide | assumption) (by first | omega | decide | assumption) (by first | omega | decide | assumption) (by first | omega | decide | assumption) (by first | omega | decide | assumption)) dX8_findMark_32 k1166 k1168 k34 k57 k1169 ykX8_bitAt rfl rfl rfl rfl rfl rfl rfl rfl (nl rfl) ⟨nl rfl, nl rfl⟩ ⟨(nl rfl), (nl rfl)⟩ rfl (fun v9 w9 hu => ?_)
                obtain ⟨r_6, rfl, rfl, u_7⟩ := hu
                refine v_is (wn := [(h0, ob 8 [.ref xa, .ref xb, .ref xc, .ref xd, .ref xe, .ref xf, .ref xg, .int (iI vc), .int (iI vk), .int (iI vw), .ref xm, .ref xv, .int (iI vg), .ref xw, .int (iI vb), .int (iI vi), .ref xq, .int (iI ve), .int (iI vf), .int (iI vu), .int (iI vl), .ref xr, .ref xh, .ref xo, .ref xp, .int (iI vr), .int (iI va), .int (iI vt), .int (iI vm), .int (iI vd), .int (iI vx)]), (xw, aI g 72000 f), (xq, aI g 2000 fq)]) (cn := 0) (sn := 0) (sn2 := [.int (iI r_6)]) rfl rfl rfl rfl ?_
                refine v_if_ne fx 44 dX8_findMark_35 (by decide) rfl (by omega) (fun h_8 => ?_) (fun h_8 => ?_)
                ·
                  refine v_iinc fx 2 (t + 1) [(2, .int (iI (t + 1))), (0, .ref h0), (1, .int (iI x))] dX8_findMark_44 rfl (by omega) (by decide) rfl rfl ?_
                  refine v_goto fx 2 dX8_findMark_47 (by decide) ?_
                  refine v_lv [1, 2, 0] [(0, .ref h0), (1, .int (iI x)), (2, .int (iI (t + 1)))] rfl ?_
                  exact ihL2 (t + 1) (by omega) (by omega)
                ·
                  refine v_iinc fx 2 (t + 1) [(2, .int (iI (t + 1))), (0, .ref h0), (1, .int (iI x))] dX8_findMark_38 rfl (by omega) (by decide) rfl rfl ?_
                  refine v_goto fx 22 dX8_findMark_41 (by decide) ?_
                  refine v_lv [1, 2, 0] [(0, .ref h0), (1, .int (iI x)), (2, .int (iI (t + 1)))] rfl ?_
                  exact ihL22 (t + 1) (by omega) (by omega)
          refine v_lv [1, 2, 3] [(0, .ref h0), (1, .int (iI x)), (2, .int (iI p))] rfl ?_
          exact L22 _ p (by omega) (Nat.lt_succ_self _)
        ·
          refine v_iload_n fx 0 dX8_findMark_20 rfl rfl ?_
          exact v_iret fx [(h0, ob 8 [.ref xa, .ref xb, .ref xc, .ref xd, .ref xe, .ref xf, .ref xg, .int (iI vc), .int (iI vk), .int (iI vw), .ref xm, .ref xv, .int (iI vg), .ref xw, .int (iI vb), .int (iI vi), .ref xq, .int (iI ve), .int (iI vf), .int (iI vu), .int (iI vl), .ref xr, .ref xh, .ref xo, .ref xp, .int (iI vr), .int (iI va), .int (iI vt), .int (iI vm), .int (iI vd), .int (iI vx)]), (xw, aI g 72000 f), (xq, aI g 2000 fq)] [0, 1, 2] hr dX8_findMark_21 rfl rfl (nl rfl) (nl rfl) ⟨r_2, rfl, rfl, (by first | omega | rfl | assumption)⟩
  refine v_lv [1, 2, 0] [(0, .ref h0), (1, .int (iI x)), (2, .int (iI x))] rfl ?_
  exact L2 _ x (by omega) (Nat.lt_succ_self _)
theorem dX8_runCode_0 : decode cX8_runCode 0 = .ok (.iconst 1, 1) := by decide +kernel
theorem dX8_runCode_1 : decode cX8_runCode 1 = .ok (.istore_n 2, 1) := by decide +kernel
theorem dX8_runCode_2 : decode cX8_runCode 2 = .ok (.aload_n 0, 1) := by decide +kernel
theorem dX8_runCode_3 : decode cX8_runCode 3 = .ok (.getfield 139, 3) := by decide +kernel
theorem dX8_runCode_6 : decode cX8_runCode 6 = .ok (.istore_n 3, 1) := by decide +kernel
theorem dX8_runCode_7 : decode cX8_runCode 7 = .ok (.iload_n 3, 1) := by decide +kernel
theorem dX8_runCode_8 : decode cX8_runCode 8 = .ok (.aload_n 0, 1) := by decide +kernel
theorem dX8_runCode_9 : decode cX8_runCode 9 = .ok (.getfield 129, 3) := by decide +kernel
theorem dX8_runCode_12 : decode cX8_runCode 12 = .ok (.if_icmp .ge 62, 3) := by decide +kernel
theorem dX8_runCode_15 : decode cX8_runCode 15 = .ok (.iload_n 2, 1) := by decide +kernel
theorem dX8_runCode_16 : decode cX8_runCode 16 = .ok (.sipush 8192, 3) := by decide +kernel
theorem dX8_runCode_19 : decode cX8_runCode 19 = .ok (.if_icmp .ge 55, 3) := by decide +kernel
theorem dX8_runCode_22 : decode cX8_runCode 22 = .ok (.iconst 2, 1) := by decide +kernel
theorem dX8_runCode_23 : decode cX8_runCode 23 = .ok (.iload_n 2, 1) := by decide +kernel
theorem dX8_runCode_24 : decode cX8_runCode 24 = .ok (.imul, 1) := by decide +kernel
theorem dX8_runCode_25 : decode cX8_runCode 25 = .ok (.aload_n 0, 1) := by decide +kernel
theorem dX8_runCode_26 : decode cX8_runCode 26 = .ok (.iload_n 3, 1) := by decide +kernel
theorem dX8_runCode_27 : decode cX8_runCode 27 = .ok (.invokevirtual 132, 3) := by decide +kernel
theorem dX8_runCode_30 : decode cX8_runCode 30 = .ok (.iadd, 1) := by decide +kernel
theorem dX8_runCode_31 : decode cX8_runCode 31 = .ok (.istore_n 2, 1) := by decide +kernel
theorem dX8_runCode_32 : decode cX8_runCode 32 = .ok (.iinc 3 1, 3) := by decide +kernel
theorem dX8_runCode_35 : decode cX8_runCode 35 = .ok (.iload_n 1, 1) := by decide +kernel
theorem dX8_runCode_36 : decode cX8_runCode 36 = .ok (.ifCond .eq 12, 3) := by decide +kernel
theorem dX8_runCode_39 : decode cX8_runCode 39 = .ok (.aload_n 0, 1) := by decide +kernel
theorem dX8_runCode_40 : decode cX8_runCode 40 = .ok (.getfield 28, 3) := by decide +kernel
theorem dX8_runCode_43 : decode cX8_runCode 43 = .ok (.iload_n 2, 1) := by decide +kernel
theorem dX8_runCode_44 : decode cX8_runCode 44 = .ok (.iaload, 1) := by decide +kernel
theorem dX8_runCode_45 : decode cX8_runCode 45 = .ok (.goto 9, 3) := by decide +kernel
theorem dX8_runCode_48 : decode cX8_runCode 48 = .ok (.aload_n 0, 1) := by decide +kernel
theorem dX8_runCode_49 : decode cX8_runCode 49 = .ok (.getfield 25, 3) := by decide +kernel
theorem dX8_runCode_52 : decode cX8_runCode 52 = .ok (.iload_n 2, 1) := by decide +kernel
theorem dX8_runCode_53 : decode cX8_runCode 53 = .ok (.iaload, 1) := by decide +kernel
theorem dX8_runCode_54 : decode cX8_runCode 54 = .ok (.istore 4, 2) := by decide +kernel
theorem dX8_runCode_56 : decode cX8_runCode 56 = .ok (.iload 4, 2) := by decide +kernel
theorem dX8_runCode_58 : decode cX8_runCode 58 = .ok (.ifCond .le 13, 3) := by decide +kernel
theorem dX8_runCode_61 : decode cX8_runCode 61 = .ok (.aload_n 0, 1) := by decide +kernel
theorem dX8_runCode_62 : decode cX8_runCode 62 = .ok (.iload_n 3, 1) := by decide +kernel
theorem dX8_runCode_63 : decode cX8_runCode 63 = .ok (.putfield 139, 3) := by decide +kernel
theorem dX8_runCode_66 : decode cX8_runCode 66 = .ok (.iload 4, 2) := by decide +kernel
theorem dX8_runCode_68 : decode cX8_runCode 68 = .ok (.iconst 1, 1) := by decide +kernel
theorem dX8_runCode_69 : decode cX8_runCode 69 = .ok (.isub, 1) := by decide +kernel
theorem dX8_runCode_70 : decode cX8_runCode 70 = .ok (.ireturn, 1) := by decide +kernel
theorem dX8_runCode_71 : decode cX8_runCode 71 = .ok (.goto (-64), 3) := by decide +kernel
theorem dX8_runCode_74 : decode cX8_runCode 74 = .ok (.aload_n 0, 1) := by decide +kernel
theorem dX8_runCode_75 : decode cX8_runCode 75 = .ok (.iconst 1, 1) := by decide +kernel
theorem dX8_runCode_76 : decode cX8_runCode 76 = .ok (.putfield 142, 3) := by decide +kernel
theorem dX8_runCode_79 : decode cX8_runCode 79 = .ok (.iconst 0, 1) := by decide +kernel
theorem dX8_runCode_80 : decode cX8_runCode 80 = .ok (.ireturn, 1) := by decide +kernel
abbrev po_c_X8_runCode (g : GG) (h0 : Nat) (xa : Nat) (xb : Nat) (xc : Nat) (xd : Nat) (xe : Nat) (xf : Nat) (xg : Nat) (xm : Nat) (xv : Nat) (xw : Nat) (xq : Nat) (xr : Nat) (xh : Nat) (xo : Nat) (xp : Nat) (vc : Int) (vk : Int) (vw : Int) (vg : Int) (vb : Int) (vi : Int) (ve : Int) (vf : Int) (vu : Int) (vl : Int) (vr : Int) (va : Int) (vt : Int) (vm : Int) (vd : Int) (vx : Int) (f : Nat → Int32) (fq : Nat → Int32) (fw : Nat → Int32) (fb : Nat → Int32) (bk : Int) : Option Value → va_W → Prop := fun v8 w8 => ∃ r : Int, ∃ a2 : Int, ∃ d2 : Int, v8 = some (.int (iI r)) ∧ w8 = [(h0, ob 8 [.ref xa, .ref xb, .ref xc, .ref xd, .ref xe, .ref xf, .ref xg, .int (iI vc), .int (iI vk), .int (iI vw), .ref xm, .ref xv, .int (iI vg), .ref xw, .int (iI vb), .int (iI vi), .ref xq, .int (iI ve), .int (iI vf), .int (iI vu), .int (iI vl), .ref xr, .ref xh, .ref xo, .ref xp, .int (iI vr), .int (iI a2), .int (iI vt), .int (iI vm), .int (iI d2), .int (iI vx)]), (xw, aI g 72000 f), (xq, aI g 2000 fq), (xf, aI g 16384 fw), (xg, aI g 16384 fb)] ∧ (0 ≤ r ∧ r ≤ 3000) ∧ (0 ≤ d2 ∧ d2 ≤ 1) ∧ (va ≤ a2 ∧ a2 ≤ vt ∧ va < a2 + d2)
set_option maxHeartbeats 4000000 in
set_option maxRecDepth 100000 in
theorem c_X8_runCode (l : Launch) (g : GG) (h0 : Nat) (xa : Nat) (xb : Nat) (xc : Nat) (xd : Nat) (xe : Nat) (xf : Nat) (xg : Nat) (xm : Nat) (xv : Nat) (xw : Nat) (xq : Nat) (xr : Nat) (xh : Nat) (xo : Nat) (xp : Nat) (vc : Int) (vk : Int) (vw : Int) (vg : Int) (vb : Int) (vi : Int) (ve : Int) (vf : Int) (vu : Int) (vl : Int) (vr : Int) (va : Int) (vt : Int) (vm : Int) (vd : Int) (vx : Int) (f : Nat → Int32) (fq : Nat → Int32) (fw : Nat → Int32) (fb : Nat → Int32) (bk : Int) (hp0 : sOk vm vt) (hp1 : 0 ≤ vt ∧ vt ≤ 576000) (hp2 : 0 ≤ vl ∧ vl ≤ 1) (hp3 : 0 ≤ vm ∧ vm ≤ 1) (hp4 : rR fw) (hp5 : rR fb) (hp6 : 0 ≤ va ∧ va ≤ vt) (hp7 : vd = 0) (hp8 : 0 ≤ bk ∧ bk ≤ 1) : Ct l g yX8_runCode (wM yX8_runCode cX8_runCode 5 (some .int)) (rmD 1 0 0) [.ref h0, .int (iI bk)] [(h0, ob 8 [.ref xa, .ref xb, .ref xc, .ref xd, .ref xe, .ref xf, .ref xg, .int (iI vc), .int (iI vk), .int (iI vw), .ref xm, .ref xv, .int (iI vg), .ref xw, .int (iI vb), .int (iI vi), .ref xq, .int (iI ve), .int (iI vf), .int (iI vu), .int (iI vl), .ref xr, .ref xh, .ref xo, .ref xp, .int (iI vr), .int (iI va), .int (iI vt), .int (iI vm), .int (iI vd), .int (iI vx)]), (xw, aI g 72000 f), (xq, aI g 2000 fq), (xf, aI g 16384 fw), (xg, aI g 16384 fb)] (po_c_X8_runCode g h0 xa xb xc xd xe xf xg xm xv xw xq xr xh xo xp vc vk vw vg vb vi ve vf vu vl vr va vt vm vd vx f fq fw fb bk) := by
  refine Ct_of (by decide +kernel) (Nat.le_of_ble_eq_true rfl) ?_
  intro p9 e9 s9 m9 ag9 bl9 mt9 c9 A9 fx hr hnm
  refine v_iconst fx dX8_runCode_0 rfl ?_
  refine v_istore_n fx [(2, .int (iI 1)), (0, .ref h0), (1, .int (iI bk))] dX8_runCode_1 (by decide) rfl rfl ?_
  refine v_aload_n fx 1 dX8_runCode_2 rfl rfl ?_
  refine v_get fx 0 26 inX8 k1022 dX8_runCode_3 rfl rfl (by decide) rfl rfl rfl ?_
  refine v_istore_n fx [(3, .int (iI va)), (2, .int (iI 1)), (0, .ref h0), (1, .int (iI bk))] dX8_runCode_6 (by decide) rfl rfl ?_
  have L7 : ∀ (N : Nat) (v : Int) (p : Int), (1 ≤ v ∧ v ≤ 16383) → (va ≤ p ∧ p ≤ vt) → ((vt - p).toNat) < N → V p9 l e9 (rmD 1 0 0) s9 m9 ag9 bl9 mt9 c9 5 g A9 (MQ bl9 (cQ g (po_c_X8_runCode g h0 xa xb xc xd xe xf xg xm xv xw xq xr xh xo xp vc vk vw vg vb vi ve vf vu vl vr va vt vm vd vx f fq fw fb bk) A9) ag9 s9 0 0 A9) [(h0, ob 8 [.ref xa, .ref xb, .ref xc, .ref xd, .ref xe, .ref xf, .ref xg, .int (iI vc), .int (iI vk), .int (iI vw), .ref xm, .ref xv, .int (iI vg), .ref xw, .int (iI vb), .int (iI vi), .ref xq, .int (iI ve), .int (iI vf), .int (iI vu), .int (iI vl), .ref xr, .ref xh, .ref xo, .ref xp, .int (iI vr), .int (iI va), .int (iI vt), .int (iI vm), .int (iI vd), .int (iI vx)]), (xw, aI g 72000 f), (xq, aI g 2000 fq), (xf, aI g 16384 fw), (xg, aI g 16384 fb)] 0 0 [(0, .ref h0), (1, .int (iI bk)), (2, .int (iI v)), (3, .int (iI p))] 7 [] := by
    intro N
    induction N with
    | zero => intro v p hi7_0 hi7_1 hN; exact absurd hN (Nat.not_lt_zero _)
    | succ N ihL7 =>
      intro v p hi7_0 hi7_1 hN7
      refine v_iload_n fx 3 dX8_runCode_7 rfl rfl ?_
      refine v_aload_n fx 0 dX8_runCode_8 rfl rfl ?_
      refine v_get fx 0 27 inX8 k1023 dX8_runCode_9 rfl rfl (by decide) rfl rfl rfl ?_
      refine v_icmp_ge fx 74 dX8_runCode_12 (by decide) rfl (by omega) (by omega) (fun h_1 => ?_) (fun h_1 => ?_)
      ·
        refine v_aload_n fx 0 dX8_runCode_74 rfl rfl ?_
        refine v_iconst fx dX8_runCode_75 rfl ?_
        refine v_put fx 0 29 [(h0, ob 8 [.ref xa, .ref xb, .ref xc, .ref xd, .ref xe, .ref xf, .ref xg, .int (iI vc), .int (iI vk), .int (iI vw), .ref xm, .ref xv, .int (iI vg), .ref xw, .int (iI vb), .int (iI vi), .ref xq, .int (iI ve), .int (iI vf), .int (iI vu), .int (iI vl), .ref xr, .ref xh, .ref xo, .ref xp, .int (iI vr), .int (iI va), .int (iI vt), .int (iI vm), .int (iI 1), .int (iI vx)]), (xw, aI g 72000 f), (xq, aI g 2000 fq), (xf, aI g 16384 fw), (xg, aI g 16384 fb)] inX8 tyX8_ok nmX8 k1025 dX8_runCode_76 rfl rfl (by decide) rfl rfl rfl rfl (nl rfl) rfl rfl ?_
        refine v_iconst fx dX8_runCode_79 rfl ?_
        exact v_iret fx [(h0, ob 8 [.ref xa, .ref xb, .ref xc, .ref xd, .ref xe, .ref xf, .ref xg, .int (iI vc), .int (iI vk), .int (iI vw), .ref xm, .ref xv, .int (iI vg), .ref xw, .int (iI vb), .int (iI vi), .ref xq, .int (iI ve), .int (iI vf), .int (iI vu), .int (iI vl), .ref xr, .ref xh, .ref xo, .ref xp, .int (iI vr), .int (iI va), .int (iI vt), .int (iI vm), .int (iI 1), .int (iI vx)]), (xw, aI g 72000 f), (xq, aI g 2000 fq), (xf, aI g 16384 fw), (xg, aI g 16384 fb)] [0, 1, 2, 3, 4] hr dX8_runCode_80 rfl rfl (nl rfl) (nl rfl) ⟨0, va, 1, rfl, rfl, (by first | omega | rfl | assumption), (by first | omega | rfl | assumption), (by first | omega | rfl | assumption)⟩
      ·
        refine v_iload_n fx 2 dX8_runCode_15 rfl rfl ?_
        refine v_sipush fx dX8_runCode_16 (by decide +kernel) rfl ?_
        refine v_icmp_ge fx 74 dX8_runCode_19 (by decide) rfl (by omega) (by omega) (fun h_2 => ?_) (fun h_2 => ?_)
        ·
          refine v_aload_n fx 0 dX8_runCode_74 rfl rfl ?_
          refine v_iconst fx dX8_runCode_75 rfl ?_
          refine v_put fx 0 29 [(h0, ob 8 [.ref xa, .ref xb, .ref xc, .ref xd, .ref xe, .ref xf, .ref xg, .int (iI vc), .int (iI vk), .int (iI vw), .ref xm, .ref xv, .int (iI vg), .ref xw, .int (iI vb), .int (iI vi), .ref xq, .int (iI ve), .int (iI vf), .int (iI vu), .int (iI vl), .ref xr, .ref xh, .ref xo, .ref xp, .int (iI vr), .int (iI va), .int (iI vt), .int (iI vm), .int (iI 1), .int (iI vx)]), (xw, aI g 72000 f), (xq, aI g 2000 fq), (xf, aI g 16384 fw), (xg, aI g 16384 fb)] inX8 tyX8_ok nmX8 k1025 dX8_runCode_76 rfl rfl (by decide) rfl rfl rfl rfl (nl rfl) rfl rfl ?_
          refine v_iconst fx dX8_runCode_79 rfl ?_
          exact v_iret fx [(h0, ob 8 [.ref xa, .ref xb, .ref xc, .ref xd, .ref xe, .ref xf, .ref xg, .int (iI vc), .int (iI vk), .int (iI vw), .ref xm, .ref xv, .int (iI vg), .ref xw, .int (iI vb), .int (iI vi), .ref xq, .int (iI ve), .int (iI vf), .int (iI vu), .int (iI vl), .ref xr, .ref xh, .ref xo, .ref xp, .int (iI vr), .int (iI va), .int (iI vt), .int (iI vm), .int (iI 1), .int (iI vx)]), (xw, aI g 72000 f), (xq, aI g 2000 fq), (xf, aI g 16384 fw), (xg, aI g 16384 fb)] [0, 1, 2, 3, 4] hr dX8_runCode_80 rfl rfl (nl rfl) (nl rfl) ⟨0, va, 1, rfl, rfl, (by first | omega | rfl | assumption), (by first | omega | rfl | assumption), (by first | omega | rfl | assumption)⟩
        ·
          refine v_iconst fx dX8_runCode_22 rfl ?_
          refine v_iload_n fx 2 dX8_runCode_23 rfl rfl ?_
          refine v_imul fx (2 * v) dX8_runCode_24 (by rfl) rfl ?_
          refine v_aload_n fx 0 dX8_runCode_25 rfl rfl ?_
          refine v_iload_n fx 3 dX8_runCode_26 rfl rfl ?_
          refine v_callV (As := [.int (iI p)]) (rest := [.int (iI (2 * v))]) fx [0, 1, 2] [3, 4] [(h0, ob 8 [.ref xa, .ref xb, .ref xc, .ref xd, .ref xe, .ref xf, .ref xg, .int (iI vc), .int (iI vk), .int (iI vw), .ref xm, .ref xv, .int (iI vg), .ref xw, .int (iI vb), .int (iI vi), .ref xq, .int (iI ve), .int (iI vf), .int (iI vu), .int (iI vl), .ref xr, .ref xh, .ref xo, .ref xp, .int (iI vr), .int (iI va), .int (iI vt), .int (iI vm), .int (iI vd), .int (iI vx)]), (xw, aI g 72000 f), (xq, aI g 2000 fq)] [(xf, aI g 16384 fw), (xg, aI g 16384 fb)] 1 0 (c_X8_bitAt l g h0 xa xb xc xd xe xf xg xm xv xw xq xr xh xo xp vc vk vw vg vb vi ve vf vu vl vr va vt vm vd vx f fq p (by first | omega | decide | assumption) (by first | omega | decide | assumption) (by first | omega | decide | assumption) (by first | omega | decide | assumption) (by first | omega | decide | assumption)) dX8_runCode_27 k1166 k1168 k34 k57 k1169 ykX8_bitAt rfl rfl rfl rfl rfl rfl rfl rfl (nl rfl) ⟨nl rfl, nl rfl⟩ ⟨(nl rfl), (nl rfl)⟩ rfl (fun v9 w9 hu => ?_)
          obtain ⟨r_3, rfl, rfl, u_4⟩ := hu
          refine v_is (wn := [(xf, aI g 16384 fw), (xg, aI g 16384 fb), (h0, ob 8 [.ref xa, .ref xb, .ref xc, .ref xd, .ref xe, .ref xf, .ref xg, .int (iI vc), .int (iI vk), .int (iI vw), .ref xm, .ref xv, .int (iI vg), .ref xw, .int (iI vb), .int (iI vi), .ref xq, .int (iI ve), .int (iI vf), .int (iI vu), .int (iI vl), .ref xr, .ref xh, .ref xo, .ref xp, .int (iI vr), .int (iI va), .int (iI vt), .int (iI vm), .int (iI vd), .int (iI vx)]), (xw, aI g 72000 f), (xq, aI g 2000 fq)]) (cn := 0) (sn := 0) (sn2 := [.int (iI r_3), .int (iI (2 * v))]) rfl rfl rfl rfl ?_
          refine v_iadd fx ((2 * v) + r_3) dX8_runCode_30 (by rfl) rfl ?_
          refine v_istore_n fx [(2, .int (iI ((2 * v) + r_3))), (0, .ref h0), (1, .int (iI bk)), (3, .int (iI p))] dX8_runCode_31 (by decide) rfl rfl ?_
          refine v_iinc fx 3 (p + 1) [(3, .int (iI (p + 1))), (2, .int (iI ((2 * v) + r_3))), (0, .ref h0), (1, .int (iI bk))] dX8_runCode_32 rfl (by omega) (by decide) rfl rfl ?_
          refine v_iload_n fx 3 dX8_runCode_35 rfl rfl ?_
          refine v_if_eq fx 48 dX8_runCode_36 (by decide) rfl (by omega) (fun h_5 => ?_) (fun h_5 => ?_)
          ·
            refine v_aload_n fx 2 dX8_runCode_48 rfl rfl ?_
            refine v_get fx 2 5 inX8 k1001 dX8_runCode_49 rfl rfl (by decide) rfl rfl rfl ?_
            refine v_iload_n fx 1 dX8_runCode_52 rfl rfl ?_
            refine v_iald fx 0 dX8_runCode_53 rfl (by omega) (by omega) rfl ?_
            refine v_any (fun z_6 hz_6 ez_6 => ?_)
            have hn := rR_at hp4 ez_6 hz_6
            refine v_istore fx [(4, .int (iI z_6)), (3, .int (iI (p + 1))), (2, .int (iI ((2 * v) + r_3))), (0, .ref h0), (1, .int (iI bk))] dX8_runCode_54 (by decide) rfl rfl ?_
            refine v_iload fx 0 dX8_runCode_56 rfl rfl ?_
            refine v_if_le fx 71 dX8_runCode_58 (by decide) rfl (by omega) (fun h_7 => ?_) (fun h_7 => ?_)
            ·
              refine v_goto fx 7 dX8_runCode_71 (by decide) ?_
              refine v_ws [2, 3, 4, 0, 1] [(h0, ob 8 [.ref xa, .ref xb, .ref xc, .ref xd, .ref xe, .ref xf, .ref xg, .int (iI vc), .int (iI vk), .int (iI vw), .ref xm, .ref xv, .int (iI vg), .ref xw, .int (iI vb), .int (iI vi), .ref xq, .int (iI ve), .int (iI vf), .int (iI vu), .int (iI vl), .ref xr, .ref xh, .ref xo, .ref xp, .int (iI vr), .int (iI va), .int (iI vt), .int (iI vm), .int (iI vd), .int (iI vx)]), (xw, aI g 72000 f), (xq, aI g 2000 fq), (xf, aI g 16384 fw), (xg, aI g 16384 fb)] rfl rfl ?_
              refine v_lv [3, 4, 2, 1] [(0, .ref h0), (1, .int (iI bk)), (2, .int (iI ((2 * v) + r_3))), (3, .int (iI (p + 1)))] rfl ?_
              exact ihL7 ((2 * v) + r_3) (p + 1) (by omega) (by omega) (by omega)
            ·
              refine v_aload_n fx 3 dX8_runCode_61 rfl rfl ?_
              refine v_iload_n fx 1 dX8_runCode_62 rfl rfl ?_
              refine v_put fx 2 26 [(xf, aI g 16384 fw), (xg, aI g 16384 fb), (h0, ob 8 [.ref xa, .ref xb, .ref xc, .ref xd, .ref xe, .ref xf, .ref xg, .int (iI vc), .int (iI vk), .int (iI vw), .ref xm, .ref xv, .int (iI vg), .ref xw, .int (iI vb), .int (iI vi), .ref xq, .int (iI ve), .int (iI vf), .int (iI vu), .int (iI vl), .ref xr, .ref xh, .ref xo, .ref xp, .int (iI vr), .int (iI (p + 1)), .int (iI vt), .int (iI vm), .int (iI vd), .int (iI vx)]), (xw, aI g 72000 f), (xq, aI g 2000 fq)] inX8 tyX8_ok nmX8 k1022 dX8_runCode_63 rfl rfl (by decide) rfl rfl rfl rfl (nl rfl) rfl rfl ?_
              refine v_iload fx 0 dX8_runCode_66 rfl rfl ?_
              refine v_iconst fx dX8_runCode_68 rfl ?_
              refine v_isub fx (z_6 - 1) dX8_runCode_69 (by rfl) rfl ?_
              exact v_iret fx [(h0, ob 8 [.ref xa, .ref xb, .ref xc, .ref xd, .ref xe, .ref xf, .ref xg, .int (iI vc), .int (iI vk), .int (iI vw), .ref xm, .ref xv, .int (iI vg), .ref xw, .int (iI vb), .int (iI vi), .ref xq, .int (iI ve), .int (iI vf), .int (iI vu), .int (iI vl), .ref xr, .ref xh, .ref xo, .ref xp, .int (iI vr), .int (iI (p + 1)), .int (iI vt), .int (iI vm), .int (iI vd), .int (iI vx)]), (xw, aI g 72000 f), (xq, aI g 2000 fq), (xf, aI g 16384 fw), (xg, aI g 16384 fb)] [2, 3, 4, 0, 1] hr dX8_runCode_70 rfl rfl (nl rfl) (nl rfl) ⟨(z_6 - 1), (p + 1), vd, rfl, rfl, (by first | omega | rfl | assumption), (by first | omega | rfl | assumption), (by first | omega | rfl | assumption)⟩
          ·
            refine v_aload_n fx 2 dX8_runCode_39 rfl rfl ?_
            refine v_get fx 2 6 inX8 k1002 dX8_runCode_40 rfl rfl (by decide) rfl rfl rfl ?_
            refine v_iload_n fx 1 dX8_runCode_43 rfl rfl ?_
            refine v_iald fx 1 dX8_runCode_44 rfl (by omega) (by omega) rfl ?_
            refine v_any (fun z_8 hz_8 ez_8 => ?_)
            have hn := rR_at hp5 ez_8 hz_8
            refine v_goto fx 54 dX8_runCode_45 (by decide) ?_
            refine v_istore fx [(4, .int (iI z_8)), (3, .int (iI (p + 1))), (2, .int (iI ((2 * v) + r_3))), (0, .ref h0), (1, .int (iI bk))] dX8_runCode_54 (by decide) rfl rfl ?_
            refine v_iload fx 0 dX8_runCode_56 rfl rfl ?_
            refine v_if_le fx 71 dX8_runCode_58 (by decide) rfl (by omega) (fun h_9 => ?_) (fun h_9 => ?_)
            ·
              refine v_goto fx 7 dX8_runCode_71 (by decide) ?_
              refine v_ws [2, 3, 4, 0, 1] [(h0, ob 8 [.ref xa, .ref xb, .ref xc, .ref xd, .ref xe, .ref xf, .ref xg, .int (iI vc), .int (iI vk), .int (iI vw), .ref xm, .ref xv, .int (iI vg), .ref xw, .int (iI vb), .int (iI vi), .ref xq, .int (iI ve), .int (iI vf), .int (iI vu), .int (iI vl), .ref xr, .ref xh, .ref xo, .ref xp, .int (iI vr), .int (iI va), .int (iI vt), .int (iI vm), .int (iI vd), .int (iI vx)]), (xw, aI g 72000 f), (xq, aI g 2000 fq), (xf, aI g 16384 fw), (xg, aI g 16384 fb)] rfl rfl ?_
              refine v_lv [3, 4, 2, 1] [(0, .ref h0), (1, .int (iI bk)), (2, .int (iI ((2 * v) + r_3))), (3, .int (iI (p + 1)))] rfl ?_
              exact ihL7 ((2 * v) + r_3) (p + 1) (by omega) (by omega) (by omega)
            ·
              refine v_aload_n fx 3 dX8_runCode_61 rfl rfl ?_
              refine v_iload_n fx 1 dX8_runCode_62 rfl rfl ?_
              refine v_put fx 2 26 [(xf, aI g 16384 fw), (xg, aI g 16384 fb), (h0, ob 8 [.ref xa, .ref xb, .ref xc, .ref xd, .ref xe, .ref xf, .ref xg, .int (iI vc), .int (iI vk), .int (iI vw), .ref xm, .ref xv, .int (iI vg), .ref xw, .int (iI vb), .int (iI vi), .ref xq, .int (iI ve), .int (iI vf), .int (iI vu), .int (iI vl), .ref xr, .ref xh, .ref xo, .ref xp, .int (iI vr), .int (iI (p + 1)), .int (iI vt), .int (iI vm), .int (iI vd), .int (iI vx)]), (xw, aI g 72000 f), (xq, aI g 2000 fq)] inX8 tyX8_ok nmX8 k1022 dX8_runCode_63 rfl rfl (by decide) rfl rfl rfl rfl (nl rfl) rfl rfl ?_
              refine v_iload fx 0 dX8_runCode_66 rfl rfl ?_
              refine v_iconst fx dX8_runCode_68 rfl ?_
              refine v_isub fx (z_8 - 1) dX8_runCode_69 (by rfl) rfl ?_
              exact v_iret fx [(h0, ob 8 [.ref xa, .ref xb, .ref xc, .ref xd, .ref xe, .ref xf, .ref xg, .int (iI vc), .int (iI vk), .int (iI vw), .ref xm, .ref xv, .int (iI vg), .ref xw, .int (iI vb), .int (iI vi), .ref xq, .int (iI ve), .int (iI vf), .int (iI vu), .int (iI vl), .ref xr, .ref xh, .ref xo, .ref xp, .int (iI vr), .int (iI (p + 1)), .int (iI vt), .int (iI vm), .int (iI vd), .int (iI vx)]), (xw, aI g 72000 f), (xq, aI g 2000 fq), (xf, aI g 16384 fw), (xg, aI g 16384 fb)] [2, 3, 4, 0, 1] hr dX8_runCode_70 rfl rfl (nl rfl) (nl rfl) ⟨(z_8 - 1), (p + 1), vd, rfl, rfl, (by first | omega | rfl | assumption), (by first | omega | rfl | assumption), (by first | omega | rfl | assumption)⟩
  refine v_lv [2, 3, 1, 0] [(0, .ref h0), (1, .int (iI bk)), (2, .int (iI 1)), (3, .int (iI va))] rfl ?_
  exact L7 _ 1 va (by omega) (by omega) (Nat.lt_succ_self _)
theorem dX8_readRun_0 : decode cX8_readRun 0 = .ok (.iconst 0, 1) := by decide +kernel
theorem dX8_readRun_1 : decode cX8_readRun 1 = .ok (.istore_n 3, 1) := by decide +kernel
theorem dX8_readRun_2 : decode cX8_readRun 2 = .ok (.bipush 64, 2) := by decide +kernel
theorem dX8_readRun_4 : decode cX8_readRun 4 = .ok (.istore 4, 2) := by decide +kernel
theorem dX8_readRun_6 : decode cX8_readRun 6 = .ok (.aload_n 0, 1) := by decide +kernel
theorem dX8_readRun_7 : decode cX8_readRun 7 = .ok (.getfield 142, 3) := by decide +kernel
theorem dX8_readRun_10 : decode cX8_readRun 10 = .ok (.ifCond .ne 46, 3) := by decide +kernel
theorem dX8_readRun_13 : decode cX8_readRun 13 = .ok (.iload 4, 2) := by decide +kernel
theorem dX8_readRun_15 : decode cX8_readRun 15 = .ok (.bipush 64, 2) := by decide +kernel
theorem dX8_readRun_17 : decode cX8_readRun 17 = .ok (.if_icmp .lt 39, 3) := by decide +kernel
theorem dX8_readRun_20 : decode cX8_readRun 20 = .ok (.aload_n 0, 1) := by decide +kernel
theorem dX8_readRun_21 : decode cX8_readRun 21 = .ok (.iload_n 1, 1) := by decide +kernel
theorem dX8_readRun_22 : decode cX8_readRun 22 = .ok (.invokevirtual 145, 3) := by decide +kernel
theorem dX8_readRun_25 : decode cX8_readRun 25 = .ok (.istore 4, 2) := by decide +kernel
theorem dX8_readRun_27 : decode cX8_readRun 27 = .ok (.iload_n 3, 1) := by decide +kernel
theorem dX8_readRun_28 : decode cX8_readRun 28 = .ok (.iload 4, 2) := by decide +kernel
theorem dX8_readRun_30 : decode cX8_readRun 30 = .ok (.iadd, 1) := by decide +kernel
theorem dX8_readRun_31 : decode cX8_readRun 31 = .ok (.istore_n 3, 1) := by decide +kernel
theorem dX8_readRun_32 : decode cX8_readRun 32 = .ok (.aload_n 0, 1) := by decide +kernel
theorem dX8_readRun_33 : decode cX8_readRun 33 = .ok (.aload_n 0, 1) := by decide +kernel
theorem dX8_readRun_34 : decode cX8_readRun 34 = .ok (.getfield 142, 3) := by decide +kernel
theorem dX8_readRun_37 : decode cX8_readRun 37 = .ok (.ifCond .ne 8, 3) := by decide +kernel
theorem dX8_readRun_40 : decode cX8_readRun 40 = .ok (.iload_n 3, 1) := by decide +kernel
theorem dX8_readRun_41 : decode cX8_readRun 41 = .ok (.iload_n 2, 1) := by decide +kernel
theorem dX8_readRun_42 : decode cX8_readRun 42 = .ok (.if_icmp .le 7, 3) := by decide +kernel
theorem dX8_readRun_45 : decode cX8_readRun 45 = .ok (.iconst 1, 1) := by decide +kernel
theorem dX8_readRun_46 : decode cX8_readRun 46 = .ok (.goto 4, 3) := by decide +kernel
theorem dX8_readRun_49 : decode cX8_readRun 49 = .ok (.iconst 0, 1) := by decide +kernel
theorem dX8_readRun_50 : decode cX8_readRun 50 = .ok (.putfield 142, 3) := by decide +kernel
theorem dX8_readRun_53 : decode cX8_readRun 53 = .ok (.goto (-47), 3) := by decide +kernel
theorem dX8_readRun_56 : decode cX8_readRun 56 = .ok (.iload_n 3, 1) := by decide +kernel
theorem dX8_readRun_57 : decode cX8_readRun 57 = .ok (.ireturn, 1) := by decide +kernel
abbrev po_c_X8_readRun (g : GG) (h0 : Nat) (xa : Nat) (xb : Nat) (xc : Nat) (xd : Nat) (xe : Nat) (xf : Nat) (xg : Nat) (xm : Nat) (xv : Nat) (xw : Nat) (xq : Nat) (xr : Nat) (xh : Nat) (xo : Nat) (xp : Nat) (vc : Int) (vk : Int) (vw : Int) (vg : Int) (vb : Int) (vi : Int) (ve : Int) (vf : Int) (vu : Int) (vl : Int) (vr : Int) (va : Int) (vt : Int) (vm : Int) (vd : Int) (vx : Int) (f : Nat → Int32) (fq : Nat → Int32) (fw : Nat → Int32) (fb : Nat → Int32) (bk : Int) (ro : Int) : Option Value → va_W → Prop := fun v8 w8 => ∃ r : Int, ∃ a2 : Int, ∃ d2 : Int, v8 = some (.int (iI r)) ∧ w8 = [(h0, ob 8 [.ref xa, .ref xb, .ref xc, .ref xd, .ref xe, .ref xf, .ref xg, .int (iI vc), .int (iI vk), .int (iI vw), .ref xm, .ref xv, .int (iI vg), .ref xw, .int (iI vb), .int (iI vi), .ref xq, .int (iI ve), .int (iI vf), .int (iI vu), .int (iI vl), .ref xr, .ref xh, .ref xo, .ref xp, .int (iI vr), .int (iI a2), .int (iI vt), .int (iI vm), .int (iI d2), .int (iI vx)]), (xw, aI g 72000 f), (xq, aI g 2000 fq), (xf, aI g 16384 fw), (xg, aI g 16384 fb)] ∧ (0 ≤ r ∧ r ≤ ro + 3000 * d2) ∧ (0 ≤ d2 ∧ d2 ≤ 1) ∧ (va ≤ a2 ∧ a2 ≤ vt ∧ va < a2 + d2)
set_option maxHeartbeats 4000000 in
set_option maxRecDepth 100000 in
theorem c_X8_readRun (l : Launch) (g : GG) (h0 : Nat) (xa : Nat) (xb : Nat) (xc : Nat) (xd : Nat) (xe : Nat) (xf : Nat) (xg : Nat) (xm : Nat) (xv : Nat) (xw : Nat) (xq : Nat) (xr : Nat) (xh : Nat) (xo : Nat) (xp : Nat) (vc : Int) (vk : Int) (vw : Int) (vg : Int) (vb : Int) (vi : Int) (ve : Int) (vf : Int) (vu : Int) (vl : Int) (vr : Int) (va : Int) (vt : Int) (vm : Int) (vd : Int) (vx : Int) (f : Nat → Int32) (fq : Nat → Int32) (fw : Nat → Int32) (fb : Nat → Int32) (bk : Int) (ro : Int) (hp0 : sOk vm vt) (hp1 : 0 ≤ vt ∧ vt ≤ 576000) (hp2 : 0 ≤ vl ∧ vl ≤ 1) (hp3 : 0 ≤ vm ∧ vm ≤ 1) (hp4 : rR fw) (hp5 : rR fb) (hp6 : 0 ≤ va ∧ va ≤ vt) (hp7 : vd = 0) (hp8 : 0 ≤ bk ∧ bk ≤ 1) (hp9 : 0 ≤ ro ∧ ro ≤ 3000) : Ct l g yX8_readRun (wM yX8_readRun cX8_readRun 5 (some .int)) (rmD 2 0 0) [.ref h0, .int (iI bk), .int (iI ro)] [(h0, ob 8 [.ref xa, .ref xb, .ref xc, .ref xd, .ref xe, .ref xf, .ref xg, .int (iI vc), .int (iI vk), .int (iI vw), .ref xm, .ref xv, .int (iI vg), .ref xw, .int (iI vb), .int (iI vi), .ref xq, .int (iI ve), .int (iI vf), .int (iI vu), .int (iI vl), .ref xr, .ref xh, .ref xo, .ref xp, .int (iI vr), .int (iI va), .int (iI vt), .int (iI vm), .int (iI vd), .int (iI vx)]), (xw, aI g 72000 f), (xq, aI g 2000 fq), (xf, aI g 16384 fw), (xg, aI g 16384 fb)] (po_c_X8_readRun g h0 xa xb xc xd xe xf xg xm xv xw xq xr xh xo xp vc vk vw vg vb vi ve vf vu vl vr va vt vm vd vx f fq fw fb bk ro) := by
  refine Ct_of (by decide +kernel) (Nat.le_of_ble_eq_true rfl) ?_
  intro p9 e9 s9 m9 ag9 bl9 mt9 c9 A9 fx hr hnm
  refine v_iconst fx dX8_readRun_0 rfl ?_
  refine v_istore_n fx [(3, .int (iI 0)), (0, .ref h0), (1, .int (iI bk)), (2, .int (iI ro))] dX8_readRun_1 (by decide) rfl rfl ?_
  refine v_bipush fx dX8_readRun_2 (by decide +kernel) rfl ?_
  refine v_istore fx [(4, .int (iI 64)), (3, .int (iI 0)), (0, .ref h0), (1, .int (iI bk)), (2, .int (iI ro))] dX8_readRun_4 (by decide) rfl rfl ?_
  have L6 : ∀ (N : Nat) (n : Int) (la : Int) (pa : Int) (pd : Int), (0 ≤ pd ∧ pd ≤ 1) → (va ≤ pa ∧ pa ≤ vt) → (0 ≤ n ∧ n ≤ ro + 3000 * pd) → (0 ≤ la ∧ la ≤ 3000) → (va < pa + pd ∨ 64 ≤ la) → ((vt - pa + 1 - pd).toNat) < N → V p9 l e9 (rmD 2 0 0) s9 m9 ag9 bl9 mt9 c9 5 g A9 (MQ bl9 (cQ g (po_c_X8_readRun g h0 xa xb xc xd xe xf xg xm xv xw xq xr xh xo xp vc vk vw vg vb vi ve vf vu vl vr va vt vm vd vx f fq fw fb bk ro) A9) ag9 s9 0 0 A9) [(h0, ob 8 [.ref xa, .ref xb, .ref xc, .ref xd, .ref xe, .ref xf, .ref xg, .int (iI vc), .int (iI vk), .int (iI vw), .ref xm, .ref xv, .int (iI vg), .ref xw, .int (iI vb), .int (iI vi), .ref xq, .int (iI ve), .int (iI vf), .int (iI vu), .int (iI vl), .ref xr, .ref xh, .ref xo, .ref xp, .int (iI vr), .int (iI pa), .int (iI vt), .int (iI vm), .int (iI pd), .int (iI vx)]), (xw, aI g 72000 f), (xq, aI g 2000 fq), (xf, aI g 16384 fw), (xg, aI g 16384 fb)] 0 0 [(0, .ref h0), (1, .int (iI bk)), (2, .int (iI ro)), (3, .int (iI n)), (4, .int (iI la))] 6 [] := by
    intro N
    induction N with
    | zero => intro n la pa pd hi6_0 hi6_1 hi6_2 hi6_3 hi6_4 hN; exact absurd hN (Nat.not_lt_zero _)
    | succ N ihL6 =>
      intro n la pa pd hi6_0 hi6_1 hi6_2 hi6_3 hi6_4 hN6
      refine v_aload_n fx 0 dX8_readRun_6 rfl rfl ?_
      refine v_get fx 0 29 inX8 k1025 dX8_readRun_7 rfl rfl (by decide) rfl rfl rfl ?_
      refine v_if_ne fx 56 dX8_readRun_10 (by decide) rfl (by omega) (fun h_1 => ?_) (fun h_1 => ?_)
      ·
        refine v_iload_n fx 3 dX8_readRun_56 rfl rfl ?_
        exact v_iret fx [(h0, ob 8 [.ref xa, .ref xb, .ref xc, .ref xd, .ref xe, .ref xf, .ref xg, .int (iI vc), .int (iI vk), .int (iI vw), .ref xm, .ref xv, .int (iI vg), .ref xw, .int (iI vb), .int (iI vi), .ref xq, .int (iI ve), .int (iI vf), .int (iI vu), .int (iI vl), .ref xr, .ref xh, .ref xo, .ref xp, .int (iI vr), .int (iI pa), .int (iI vt), .int (iI vm), .int (iI pd), .int (iI vx)]), (xw, aI g 72000 f), (xq, aI g 2000 fq), (xf, aI g 16384 fw), (xg, aI g 16384 fb)] [0, 1, 2, 3, 4] hr dX8_readRun_57 rfl rfl (nl rfl) (nl rfl) ⟨n, pa, pd, rfl, rfl, (by first | omega | rfl | assumption), (by first | omega | rfl | assumption), (by first | omega | rfl | assumption)⟩
      ·
        refine v_iload fx 4 dX8_readRun_13 rfl rfl ?_
        refine v_bipush fx dX8_readRun_15 (by decide +kernel) rfl ?_
        refine v_icmp_lt fx 56 dX8_readRun_17 (by decide) rfl (by omega) (by omega) (fun h_2 => ?_) (fun h_2 => ?_)
        ·
          refine v_iload_n fx 3 dX8_readRun_56 rfl rfl ?_
          exact v_iret fx [(h0, ob 8 [.ref xa, .ref xb, .ref xc, .ref xd, .ref xe, .ref xf, .ref xg, .int (iI vc), .int (iI vk), .int (iI vw), .ref xm, .ref xv, .int (iI vg), .ref xw, .int (iI vb), .int (iI vi), .ref xq, .int (iI ve), .int (iI vf), .int (iI vu), .int (iI vl), .ref xr, .ref xh, .ref xo, .ref xp, .int (iI vr), .int (iI pa), .int (iI vt), .int (iI vm), .int (iI pd), .int (iI vx)]), (xw, aI g 72000 f), (xq, aI g 2000 fq), (xf, aI g 16384 fw), (xg, aI g 16384 fb)] [0, 1, 2, 3, 4] hr dX8_readRun_57 rfl rfl (nl rfl) (nl rfl) ⟨n, pa, pd, rfl, rfl, (by first | omega | rfl | assumption), (by first | omega | rfl | assumption), (by first | omega | rfl | assumption)⟩
        ·
          refine v_aload_n fx 0 dX8_readRun_20 rfl rfl ?_
          refine v_iload_n fx 1 dX8_readRun_21 rfl rfl ?_
          refine v_callV (As := [.int (iI bk)]) (rest := []) fx [0, 1, 2, 3, 4] [] [(h0, ob 8 [.ref xa, .ref xb, .ref xc, .ref xd, .ref xe, .ref xf, .ref xg, .int (iI vc), .int (iI vk), .int (iI vw), .ref xm, .ref xv, .int (iI vg), .ref xw, .int (iI vb), .int (iI vi), .ref xq, .int (iI ve), .int (iI vf), .int (iI vu), .int (iI vl), .ref xr, .ref xh, .ref xo, .ref xp, .int (iI vr), .int (iI pa), .int (iI vt), .int (iI vm), .int (iI pd), .int (iI vx)]), (xw, aI g 72000 f), (xq, aI g 2000 fq), (xf, aI g 16384 fw), (xg, aI g 16384 fb)] [] 1 0 (c_X8_runCode l g h0 xa xb xc xd xe xf xg xm xv xw xq xr xh xo xp vc vk vw vg vb vi ve vf vu vl vr pa vt vm pd vx f fq fw fb bk (by first | omega | decide | assumption) (by first | omega | decide | assumption) (by first | omega | decide | assumption) (by first | omega | decide | assumption) (by first | omega | decide | assumption) (by first | omega | decide | assumption) (by first | omega | decide | assumption) (by first | omega | decide | assumption) (by first | omega | decide | assumption)) dX8_readRun_22 k1186 k1188 k39 k57 k1189 ykX8_runCode rfl rfl rfl rfl rfl rfl rfl rfl (nl rfl) ⟨nl rfl, nl rfl⟩ ⟨(nl rfl), (nl rfl)⟩ rfl (fun v9 w9 hu => ?_)
          obtain ⟨r_3, a2_4, d2_5, rfl, rfl, u_6, u_7, u_8⟩ := hu
          refine v_is (wn := [(h0, ob 8 [.ref xa, .ref xb, .ref xc, .ref xd, .ref xe, .ref xf, .ref xg, .int (iI vc), .int (iI vk), .int (iI vw), .ref xm, .ref xv, .int (iI vg), .ref xw, .int (iI vb), .int (iI vi), .ref xq, .int (iI ve), .int (iI vf), .int (iI vu), .int (iI vl), .ref xr, .ref xh, .ref xo, .ref xp, .int (iI vr), .int (iI a2_4), .int (iI vt), .int (iI vm), .int (iI d2_5), .int (iI vx)]), (xw, aI g 72000 f), (xq, aI g 2000 fq), (xf, aI g 16384 fw), (xg, aI g 16384 fb)]) (cn := 0) (sn := 0) (sn2 := [.int (iI r_3)]) rfl rfl rfl rfl ?_
          refine v_istore fx [(4, .int (iI r_3)), (0, .ref h0), (1, .int (iI bk)), (2, .int (iI ro)), (3, .int (iI n))] dX8_readRun_25 (by decide) rfl rfl ?_
          refine v_iload_n fx 4 dX8_readRun_27 rfl rfl ?_
          refine v_iload fx 0 dX8_readRun_28 rfl rfl ?_
          refine v_iadd fx (n + r_3) dX8_readRun_30 (by rfl) rfl ?_
          refine v_istore_n fx [(3, .int (iI (n + r_3))), (4, .int (iI r_3)), (0, .ref h0), (1, .int (iI bk)), (2, .int (iI ro))] dX8_readRun_31 (by decide) rfl rfl ?_
          refine v_aload_n fx 2 dX8_readRun_32 rfl rfl ?_
          refine v_aload_n fx 2 dX8_readRun_33 rfl rfl ?_
          refine v_get fx 0 29 inX8 k1025 dX8_readRun_34 rfl rfl (by decide) rfl rfl rfl ?_
          refine v_if_ne fx 45 dX8_readRun_37 (by decide) rfl (by omega) (fun h_9 => ?_) (fun h_9 => ?_)
          ·
            refine v_iconst fx dX8_readRun_45 rfl ?_
            refine v_goto fx 50 dX8_readRun_46 (by decide) ?_
            refine v_put fx 0 29 [(h0, ob 8 [.ref xa, .ref xb, .ref xc, .ref xd, .ref xe, .ref xf, .ref xg, .int (iI vc), .int (iI vk), .int (iI vw), .ref xm, .ref xv, .int (iI vg), .ref xw, .int (iI vb), .int (iI vi), .ref xq, .int (iI ve), .int (iI vf), .int (iI vu), .int (iI vl), .ref xr, .ref xh, .ref xo, .ref xp, .int (iI vr), .int (iI a2_4), .int (iI vt), .int (iI vm), .int (iI 1), .int (iI vx)]), (xw, aI g 72000 f), (xq, aI g 2000 fq), (xf, aI g 16384 fw), (xg, aI g 16384 fb)] inX8 tyX8_ok nmX8 k1025 dX8_readRun_50 rfl rfl (by decide) rfl rfl rfl rfl (nl rfl) rfl rfl ?_
            refine v_goto fx 6 dX8_readRun_53 (by decide) ?_
            refine v_lv [2, 3, 4, 0, 1] [(0, .ref h0), (1, .int (iI bk)), (2, .int (iI ro)), (3, .int (iI (n + r_3))), (4, .int (iI r_3))] rfl ?_
            exact ihL6 (n + r_3) r_3 a2_4 1 (by omega) (by omega) (by omega) (by omega) (by omega) (by omega)
          ·
            refine v_iload_n fx 0 dX8_readRun_40 rfl rfl ?_
            refine v_iload_n fx 4 dX8_readRun_41 rfl rfl ?_
            refine v_icmp_le fx 49 dX8_readRun_42 (by decide) rfl (by omega) (by omega) (fun h_10 => ?_) (fun h_10 => ?_)
            ·
              refine v_iconst fx dX8_readRun_49 rfl ?_
              refine v_put fx 0 29 [(h0, ob 8 [.ref xa, .ref xb, .ref xc, .ref xd, .ref xe, .ref xf, .ref xg, .int (iI vc), .int (iI vk), .int (iI vw), .ref xm, .ref xv, .int (iI vg), .ref xw, .int (iI vb), .int (iI vi), .ref xq, .int (iI ve), .int (iI vf), .int (iI vu), .int (iI vl), .ref xr, .ref xh, .ref xo, .ref xp, .int (iI vr), .int (iI a2_4), .int (iI vt), .int (iI vm), .int (iI 0), .int (iI vx)]), (xw, aI g 72000 f), (xq, aI g 2000 fq), (xf, aI g 16384 fw), (xg, aI g 16384 fb)] inX8 tyX8_ok nmX8 k1025 dX8_readRun_50 rfl rfl (by decide) rfl rfl rfl rfl (nl rfl) rfl rfl ?_
              refine v_goto fx 6 dX8_readRun_53 (by decide) ?_
              refine v_lv [2, 3, 4, 0, 1] [(0, .ref h0), (1, .int (iI bk)), (2, .int (iI ro)), (3, .int (iI (n + r_3))), (4, .int (iI r_3))] rfl ?_
              exact ihL6 (n + r_3) r_3 a2_4 0 (by omega) (by omega) (by omega) (by omega) (by omega) (by omega)
            ·
              refine v_iconst fx dX8_readRun_45 rfl ?_
              refine v_goto fx 50 dX8_readRun_46 (by decide) ?_
              refine v_put fx 0 29 [(h0, ob 8 [.ref xa, .ref xb, .ref xc, .ref xd, .ref xe, .ref xf, .ref xg, .int (iI vc), .int (iI vk), .int (iI vw), .ref xm, .ref xv, .int (iI vg), .ref xw, .int (iI vb), .int (iI vi), .ref xq, .int (iI ve), .int (iI vf), .int (iI vu), .int (iI vl), .ref xr, .ref xh, .ref xo, .ref xp, .int (iI vr), .int (iI a2_4), .int (iI vt), .int (iI vm), .int (iI 1), .int (iI vx)]), (xw, aI g 72000 f), (xq, aI g 2000 fq), (xf, aI g 16384 fw), (xg, aI g 16384 fb)] inX8 tyX8_ok nmX8 k1025 dX8_readRun_50 rfl rfl (by decide) rfl rfl rfl rfl (nl rfl) rfl rfl ?_
              refine v_goto fx 6 dX8_readRun_53 (by decide) ?_
              refine v_lv [2, 3, 4, 0, 1] [(0, .ref h0), (1, .int (iI bk)), (2, .int (iI ro)), (3, .int (iI (n + r_3))), (4, .int (iI r_3))] rfl ?_
              exact ihL6 (n + r_3) r_3 a2_4 1 (by omega) (by omega) (by omega) (by omega) (by omega) (by omega)
  refine v_lv [2, 3, 4, 1, 0] [(0, .ref h0), (1, .int (iI bk)), (2, .int (iI ro)), (3, .int (iI 0)), (4, .int (iI 64))] rfl ?_
  exact L6 _ 0 64 va vd (by omega) (by omega) (by omega) (by omega) (by omega) (Nat.lt_succ_self _)
theorem dX8_paint_0 : decode cX8_paint 0 = .ok (.iload_n 2, 1) := by decide +kernel
theorem dX8_paint_1 : decode cX8_paint 1 = .ok (.ifCond .ge 7, 3) := by decide +kernel
theorem dX8_paint_4 : decode cX8_paint 4 = .ok (.iconst 0, 1) := by decide +kernel
theorem dX8_paint_5 : decode cX8_paint 5 = .ok (.goto 4, 3) := by decide +kernel
theorem dX8_paint_8 : decode cX8_paint 8 = .ok (.iload_n 2, 1) := by decide +kernel
theorem dX8_paint_9 : decode cX8_paint 9 = .ok (.istore 5, 2) := by decide +kernel
theorem dX8_paint_11 : decode cX8_paint 11 = .ok (.iload 5, 2) := by decide +kernel
theorem dX8_paint_13 : decode cX8_paint 13 = .ok (.iload_n 3, 1) := by decide +kernel
theorem dX8_paint_14 : decode cX8_paint 14 = .ok (.if_icmp .ge 20, 3) := by decide +kernel
theorem dX8_paint_17 : decode cX8_paint 17 = .ok (.aload_n 0, 1) := by decide +kernel
theorem dX8_paint_18 : decode cX8_paint 18 = .ok (.getfield 46, 3) := by decide +kernel
theorem dX8_paint_21 : decode cX8_paint 21 = .ok (.iload_n 1, 1) := by decide +kernel
theorem dX8_paint_22 : decode cX8_paint 22 = .ok (.iload 5, 2) := by decide +kernel
theorem dX8_paint_24 : decode cX8_paint 24 = .ok (.iadd, 1) := by decide +kernel
theorem dX8_paint_25 : decode cX8_paint 25 = .ok (.iload 4, 2) := by decide +kernel
theorem dX8_paint_27 : decode cX8_paint 27 = .ok (.bastore, 1) := by decide +kernel
theorem dX8_paint_28 : decode cX8_paint 28 = .ok (.iinc 5 1, 3) := by decide +kernel
theorem dX8_paint_31 : decode cX8_paint 31 = .ok (.goto (-20), 3) := by decide +kernel
theorem dX8_paint_34 : decode cX8_paint 34 = .ok (.return_, 1) := by decide +kernel
abbrev po_c_X8_paint (g : GG) (h0 : Nat) (xa : Nat) (xb : Nat) (xc : Nat) (xd : Nat) (xe : Nat) (xf : Nat) (xg : Nat) (xm : Nat) (xv : Nat) (xw : Nat) (xq : Nat) (xr : Nat) (xh : Nat) (xo : Nat) (xp : Nat) (vc : Int) (vk : Int) (vw : Int) (vg : Int) (vb : Int) (vi : Int) (ve : Int) (vf : Int) (vu : Int) (vl : Int) (vr : Int) (va : Int) (vt : Int) (vm : Int) (vd : Int) (vx : Int) (f : Nat → Int32) (ba : Int) (x : Int) (t : Int) (bk : Int) : Option Value → va_W → Prop := fun v8 w8 => ∃ f2 : Nat → Int32, v8 = none ∧ w8 = [(h0, ob 8 [.ref xa, .ref xb, .ref xc, .ref xd, .ref xe, .ref xf, .ref xg, .int (iI vc), .int (iI vk), .int (iI vw), .ref xm, .ref xv, .int (iI vg), .ref xw, .int (iI vb), .int (iI vi), .ref xq, .int (iI ve), .int (iI vf), .int (iI vu), .int (iI vl), .ref xr, .ref xh, .ref xo, .ref xp, .int (iI vr), .int (iI va), .int (iI vt), .int (iI vm), .int (iI vd), .int (iI vx)]), (xr, aZ g 75000 f2)]
set_option maxHeartbeats 4000000 in
set_option maxRecDepth 100000 in
theorem c_X8_paint (l : Launch) (g : GG) (h0 : Nat) (xa : Nat) (xb : Nat) (xc : Nat) (xd : Nat) (xe : Nat) (xf : Nat) (xg : Nat) (xm : Nat) (xv : Nat) (xw : Nat) (xq : Nat) (xr : Nat) (xh : Nat) (xo : Nat) (xp : Nat) (vc : Int) (vk : Int) (vw : Int) (vg : Int) (vb : Int) (vi : Int) (ve : Int) (vf : Int) (vu : Int) (vl : Int) (vr : Int) (va : Int) (vt : Int) (vm : Int) (vd : Int) (vx : Int) (f : Nat → Int32) (ba : Int) (x : Int) (t : Int) (bk : Int) (hp0 : 0 ≤ ba ∧ ba + 3000 ≤ 75000) (hp1 : -1 ≤ x ∧ x ≤ 3000) (hp2 : -1 ≤ t ∧ t ≤ 3000) : Ct l g yX8_paint (wM yX8_paint cX8_paint 6 none) (rmD 0 0 0) [.ref h0, .int (iI ba), .int (iI x), .int (iI t), .int (iI bk)] [(h0, ob 8 [.ref xa, .ref xb, .ref xc, .ref xd, .ref xe, .ref xf, .ref xg, .int (iI vc), .int (iI vk), .int (iI vw), .ref xm, .ref xv, .int (iI vg), .ref xw, .int (iI vb), .int (iI vi), .ref xq, .int (iI ve), .int (iI vf), .int (iI vu), .int (iI vl), .ref xr, .ref xh, .ref xo, .ref xp, .int (iI vr), .int (iI va), .int (iI vt), .int (iI vm), .int (iI vd), .int (iI vx)]), (xr, aZ g 75000 f)] (po_c_X8_paint g h0 xa xb xc xd xe xf xg xm xv xw xq xr xh xo xp vc vk vw vg vb vi ve vf vu vl vr va vt vm vd vx f ba x t bk) := by
  refine Ct_of (by decide +kernel) (Nat.le_of_ble_eq_true rfl) ?_
  intro p9 e9 s9 m9 ag9 bl9 mt9 c9 A9 fx hr hnm
  refine v_iload_n fx 2 dX8_paint_0 rfl rfl ?_
  refine v_if_ge fx 8 dX8_paint_1 (by decide) rfl (by omega) (fun h_1 => ?_) (fun h_1 => ?_)
  ·
    refine v_iload_n fx 2 dX8_paint_8 rfl rfl ?_
    refine v_istore fx [(5, .int (iI x)), (0, .ref h0), (1, .int (iI ba)), (2, .int (iI x)), (3, .int (iI t)), (4, .int (iI bk))] dX8_paint_9 (by decide) rfl rfl ?_
    have L11 : ∀ (N : Nat) (i : Int) (f1 : Nat → Int32), (0 ≤ i ∧ i ≤ 3000) → ((t - i).toNat) < N → V p9 l e9 (rmD 0 0 0) s9 m9 ag9 bl9 mt9 c9 6 g A9 (MQ bl9 (cQ g (po_c_X8_paint g h0 xa xb xc xd xe xf xg xm xv xw xq xr xh xo xp vc vk vw vg vb vi ve vf vu vl vr va vt vm vd vx f ba x t bk) A9) ag9 s9 0 0 A9) [(h0, ob 8 [.ref xa, .ref xb, .ref xc, .ref xd, .ref xe, .ref xf, .ref xg, .int (iI vc), .int (iI vk), .int (iI vw), .ref xm, .ref xv, .int (iI vg), .ref xw, .int (iI vb), .int (iI vi), .ref xq, .int (iI ve), .int (iI vf), .int (iI vu), .int (iI vl), .ref xr, .ref xh, .ref xo, .ref xp, .int (iI vr), .int (iI va), .int (iI vt), .int (iI vm), .int (iI vd), .int (iI vx)]), (xr, aZ g 75000 f1)] 0 0 [(0, .ref h0), (1, .int (iI ba)), (2, .int (iI x)), (3, .int (iI t)), (4, .int (iI bk)), (5, .int (iI i))] 11 [] := by
      intro N
      induction N with
      | zero => intro i f1 hi11_0 hN; exact absurd hN (Nat.not_lt_zero _)
      | succ N ihL11 =>
        intro i f1 hi11_0 hN11
        refine v_iload fx 5 dX8_paint_11 rfl rfl ?_
        refine v_iload_n fx 3 dX8_paint_13 rfl rfl ?_
        refine v_icmp_ge fx 34 dX8_paint_14 (by decide) rfl (by omega) (by omega) (fun h_2 => ?_) (fun h_2 => ?_)
        ·
          exact v_vret fx [(h0, ob 8 [.ref xa, .ref xb, .ref xc, .ref xd, .ref xe, .ref xf, .ref xg, .int (iI vc), .int (iI vk), .int (iI vw), .ref xm, .ref xv, .int (iI vg), .ref xw, .int (iI vb), .int (iI vi), .ref xq, .int (iI ve), .int (iI vf), .int (iI vu), .int (iI vl), .ref xr, .ref xh, .ref xo, .ref xp, .int (iI vr), .int (iI va), .int (iI vt), .int (iI vm), .int (iI vd), .int (iI vx)]), (xr, aZ g 75000 f1)] [0, 1] hr dX8_paint_34 rfl rfl (nl rfl) (nl rfl) ⟨f1, rfl, rfl⟩
        ·
          refine v_aload_n fx 0 dX8_paint_17 rfl rfl ?_
          refine v_get fx 0 21 inX8 k1017 dX8_paint_18 rfl rfl (by decide) rfl rfl rfl ?_
          refine v_iload_n fx 1 dX8_paint_21 rfl rfl ?_
          refine v_iload fx 5 dX8_paint_22 rfl rfl ?_
          refine v_iadd fx (ba + i) dX8_paint_24 (by rfl) rfl ?_
          refine v_iload fx 4 dX8_paint_25 rfl rfl ?_
          obtain ⟨f_3, ef_3⟩ : ∃ f9 : Nat → Int32, upd f1 (ba + i).toNat (vp_nar .boolean (iI bk)) = f9 := ⟨_, rfl⟩
          refine v_zast fx 1 f_3 [(h0, ob 8 [.ref xa, .ref xb, .ref xc, .ref xd, .ref xe, .ref xf, .ref xg, .int (iI vc), .int (iI vk), .int (iI vw), .ref xm, .ref xv, .int (iI vg), .ref xw, .int (iI vb), .int (iI vi), .ref xq, .int (iI ve), .int (iI vf), .int (iI vu), .int (iI vl), .ref xr, .ref xh, .ref xo, .ref xp, .int (iI vr), .int (iI va), .int (iI vt), .int (iI vm), .int (iI vd), .int (iI vx)]), (xr, aZ g 75000 f_3)] dX8_paint_27 rfl (by omega) (by omega) ef_3 rfl rfl ?_
          refine v_iinc fx 5 (i + 1) [(5, .int (iI (i + 1))), (0, .ref h0), (1, .int (iI ba)), (2, .int (iI x)), (3, .int (iI t)), (4, .int (iI bk))] dX8_paint_28 rfl (by omega) (by decide) rfl rfl ?_
          refine v_goto fx 11 dX8_paint_31 (by decide) ?_
          refine v_lv [1, 2, 3, 4, 5, 0] [(0, .ref h0), (1, .int (iI ba)), (2, .int (iI x)), (3, .int (iI t)), (4, .int (iI bk)), (5, .int (iI (i + 1)))] rfl ?_
          exact ihL11 (i + 1) f_3 (by omega) (by omega)
    refine v_lv [1, 2, 3, 4, 5, 0] [(0, .ref h0), (1, .int (iI ba)), (2, .int (iI x)), (3, .int (iI t)), (4, .int (iI bk)), (5, .int (iI x))] rfl ?_
    exact L11 _ x f (by omega) (Nat.lt_succ_self _)
  ·
    refine v_iconst fx dX8_paint_4 rfl ?_
    refine v_goto fx 9 dX8_paint_5 (by decide) ?_
    refine v_istore fx [(5, .int (iI 0)), (0, .ref h0), (1, .int (iI ba)), (2, .int (iI x)), (3, .int (iI t)), (4, .int (iI bk))] dX8_paint_9 (by decide) rfl rfl ?_
    have L11 : ∀ (N : Nat) (i : Int) (f1 : Nat → Int32), (0 ≤ i ∧ i ≤ 3000) → ((t - i).toNat) < N → V p9 l e9 (rmD 0 0 0) s9 m9 ag9 bl9 mt9 c9 6 g A9 (MQ bl9 (cQ g (po_c_X8_paint g h0 xa xb xc xd xe xf xg xm xv xw xq xr xh xo xp vc vk vw vg vb vi ve vf vu vl vr va vt vm vd vx f ba x t bk) A9) ag9 s9 0 0 A9) [(h0, ob 8 [.ref xa, .ref xb, .ref xc, .ref xd, .ref xe, .ref xf, .ref xg, .int (iI vc), .int (iI vk), .int (iI vw), .ref xm, .ref xv, .int (iI vg), .ref xw, .int (iI vb), .int (iI vi), .ref xq, .int (iI ve), .int (iI vf), .int (iI vu), .int (iI vl), .ref xr, .ref xh, .ref xo, .ref xp, .int (iI vr), .int (iI va), .int (iI vt), .int (iI vm), .int (iI vd), .int (iI vx)]), (xr, aZ g 75000 f1)] 0 0 [(0, .ref h0), (1, .int (iI ba)), (2, .int (iI x)), (3, .int (iI t)), (4, .int (iI bk)), (5, .int (iI i))] 11 [] := by
      intro N
      induction N with
      | zero => intro i f1 hi11_0 hN; exact absurd hN (Nat.not_lt_zero _)
      | succ N ihL11 =>
        intro i f1 hi11_0 hN11
        refine v_iload fx 5 dX8_paint_11 rfl rfl ?_
        refine v_iload_n fx 3 dX8_paint_13 rfl rfl ?_
        refine v_icmp_ge fx 34 dX8_paint_14 (by decide) rfl (by omega) (by omega) (fun h_4 => ?_) (fun h_4 => ?_)
        ·
          exact v_vret fx [(h0, ob 8 [.ref xa, .ref xb, .ref xc, .ref xd, .ref xe, .ref xf, .ref xg, .int (iI vc), .int (iI vk), .int (iI vw), .ref xm, .ref xv, .int (iI vg), .ref xw, .int (iI vb), .int (iI vi), .ref xq, .int (iI ve), .int (iI vf), .int (iI vu), .int (iI vl), .ref xr, .ref xh, .ref xo, .ref xp, .int (iI vr), .int (iI va), .int (iI vt), .int (iI vm), .int (iI vd), .int (iI vx)]), (xr, aZ g 75000 f1)] [0, 1] hr dX8_paint_34 rfl rfl (nl rfl) (nl rfl) ⟨f1, rfl, rfl⟩
        ·
          refine v_aload_n fx 0 dX8_paint_17 rfl rfl ?_
          refine v_get fx 0 21 inX8 k1017 dX8_paint_18 rfl rfl (by decide) rfl rfl rfl ?_
          refine v_iload_n fx 1 dX8_paint_21 rfl rfl ?_
          refine v_iload fx 5 dX8_paint_22 rfl rfl ?_
          refine v_iadd fx (ba + i) dX8_paint_24 (by rfl) rfl ?_
          refine v_iload fx 4 dX8_paint_25 rfl rfl ?_
          obtain ⟨f_5, ef_5⟩ : ∃ f9 : Nat → Int32, upd f1 (ba + i).toNat (vp_nar .boolean (iI bk)) = f9 := ⟨_, rfl⟩
          refine v_zast fx 1 f_5 [(h0, ob 8 [.ref xa, .ref xb, .ref xc, .ref xd, .ref xe, .ref xf, .ref xg, .int (iI vc), .int (iI vk), .int (iI vw), .ref xm, .ref xv, .int (iI vg), .ref xw, .int (iI vb), .int (iI vi), .ref xq, .int (iI ve), .int (iI vf), .int (iI vu), .int (iI vl), .ref xr, .ref xh, .ref xo, .ref xp, .int (iI vr), .int (iI va), .int (iI vt), .int (iI vm), .int (iI vd), .int (iI vx)]), (xr, aZ g 75000 f_5)] dX8_paint_27 rfl (by omega) (by omega) ef_5 rfl rfl ?_
          refine v_iinc fx 5 (i + 1) [(5, .int (iI (i + 1))), (0, .ref h0), (1, .int (iI ba)), (2, .int (iI x)), (3, .int (iI t)), (4, .int (iI bk))] dX8_paint_28 rfl (by omega) (by decide) rfl rfl ?_
          refine v_goto fx 11 dX8_paint_31 (by decide) ?_
          refine v_lv [1, 2, 3, 4, 5, 0] [(0, .ref h0), (1, .int (iI ba)), (2, .int (iI x)), (3, .int (iI t)), (4, .int (iI bk)), (5, .int (iI (i + 1)))] rfl ?_
          exact ihL11 (i + 1) f_5 (by omega) (by omega)
    refine v_lv [1, 2, 3, 4, 5, 0] [(0, .ref h0), (1, .int (iI ba)), (2, .int (iI x)), (3, .int (iI t)), (4, .int (iI bk)), (5, .int (iI 0))] rfl ?_
    exact L11 _ 0 f (by omega) (Nat.lt_succ_self _)
theorem dX8_readOne_0 : decode cX8_readOne 0 = .ok (.iconst 0, 1) := by decide +kernel
theorem dX8_readOne_1 : decode cX8_readOne 1 = .ok (.istore_n 2, 1) := by decide +kernel
theorem dX8_readOne_2 : decode cX8_readOne 2 = .ok (.iconst 0, 1) := by decide +kernel
theorem dX8_readOne_3 : decode cX8_readOne 3 = .ok (.istore_n 3, 1) := by decide +kernel
theorem dX8_readOne_4 : decode cX8_readOne 4 = .ok (.aload_n 0, 1) := by decide +kernel
theorem dX8_readOne_5 : decode cX8_readOne 5 = .ok (.getfield 142, 3) := by decide +kernel
theorem dX8_readOne_8 : decode cX8_readOne 8 = .ok (.ifCond .ne 60, 3) := by decide +kernel
theorem dX8_readOne_11 : decode cX8_readOne 11 = .ok (.iload_n 2, 1) := by decide +kernel
theorem dX8_readOne_12 : decode cX8_readOne 12 = .ok (.aload_n 0, 1) := by decide +kernel
theorem dX8_readOne_13 : decode cX8_readOne 13 = .ok (.getfield 63, 3) := by decide +kernel
theorem dX8_readOne_16 : decode cX8_readOne 16 = .ok (.if_icmp .ge 52, 3) := by decide +kernel
theorem dX8_readOne_19 : decode cX8_readOne 19 = .ok (.aload_n 0, 1) := by decide +kernel
theorem dX8_readOne_20 : decode cX8_readOne 20 = .ok (.iload_n 3, 1) := by decide +kernel
theorem dX8_readOne_21 : decode cX8_readOne 21 = .ok (.aload_n 0, 1) := by decide +kernel
theorem dX8_readOne_22 : decode cX8_readOne 22 = .ok (.getfield 63, 3) := by decide +kernel
theorem dX8_readOne_25 : decode cX8_readOne 25 = .ok (.iload_n 2, 1) := by decide +kernel
theorem dX8_readOne_26 : decode cX8_readOne 26 = .ok (.isub, 1) := by decide +kernel
theorem dX8_readOne_27 : decode cX8_readOne 27 = .ok (.invokevirtual 149, 3) := by decide +kernel
theorem dX8_readOne_30 : decode cX8_readOne 30 = .ok (.istore 4, 2) := by decide +kernel
theorem dX8_readOne_32 : decode cX8_readOne 32 = .ok (.aload_n 0, 1) := by decide +kernel
theorem dX8_readOne_33 : decode cX8_readOne 33 = .ok (.getfield 142, 3) := by decide +kernel
theorem dX8_readOne_36 : decode cX8_readOne 36 = .ok (.ifCond .ne 29, 3) := by decide +kernel
theorem dX8_readOne_39 : decode cX8_readOne 39 = .ok (.aload_n 0, 1) := by decide +kernel
theorem dX8_readOne_40 : decode cX8_readOne 40 = .ok (.iload_n 1, 1) := by decide +kernel
theorem dX8_readOne_41 : decode cX8_readOne 41 = .ok (.iload_n 2, 1) := by decide +kernel
theorem dX8_readOne_42 : decode cX8_readOne 42 = .ok (.iload_n 2, 1) := by decide +kernel
theorem dX8_readOne_43 : decode cX8_readOne 43 = .ok (.iload 4, 2) := by decide +kernel
theorem dX8_readOne_45 : decode cX8_readOne 45 = .ok (.iadd, 1) := by decide +kernel
theorem dX8_readOne_46 : decode cX8_readOne 46 = .ok (.iload_n 3, 1) := by decide +kernel
theorem dX8_readOne_47 : decode cX8_readOne 47 = .ok (.invokevirtual 153, 3) := by decide +kernel
theorem dX8_readOne_50 : decode cX8_readOne 50 = .ok (.iload_n 2, 1) := by decide +kernel
theorem dX8_readOne_51 : decode cX8_readOne 51 = .ok (.iload 4, 2) := by decide +kernel
theorem dX8_readOne_53 : decode cX8_readOne 53 = .ok (.iadd, 1) := by decide +kernel
theorem dX8_readOne_54 : decode cX8_readOne 54 = .ok (.istore_n 2, 1) := by decide +kernel
theorem dX8_readOne_55 : decode cX8_readOne 55 = .ok (.iload_n 3, 1) := by decide +kernel
theorem dX8_readOne_56 : decode cX8_readOne 56 = .ok (.ifCond .ne 7, 3) := by decide +kernel
theorem dX8_readOne_59 : decode cX8_readOne 59 = .ok (.iconst 1, 1) := by decide +kernel
theorem dX8_readOne_60 : decode cX8_readOne 60 = .ok (.goto 4, 3) := by decide +kernel
theorem dX8_readOne_63 : decode cX8_readOne 63 = .ok (.iconst 0, 1) := by decide +kernel
theorem dX8_readOne_64 : decode cX8_readOne 64 = .ok (.istore_n 3, 1) := by decide +kernel
theorem dX8_readOne_65 : decode cX8_readOne 65 = .ok (.goto (-61), 3) := by decide +kernel
theorem dX8_readOne_68 : decode cX8_readOne 68 = .ok (.return_, 1) := by decide +kernel
abbrev po_c_X8_readOne (g : GG) (h0 : Nat) (xa : Nat) (xb : Nat) (xc : Nat) (xd : Nat) (xe : Nat) (xf : Nat) (xg : Nat) (xm : Nat) (xv : Nat) (xw : Nat) (xq : Nat) (xr : Nat) (xh : Nat) (xo : Nat) (xp : Nat) (vc : Int) (vk : Int) (vw : Int) (vg : Int) (vb : Int) (vi : Int) (ve : Int) (vf : Int) (vu : Int) (vl : Int) (vr : Int) (va : Int) (vt : Int) (vm : Int) (vd : Int) (vx : Int) (f : Nat → Int32) (fq : Nat → Int32) (fw : Nat → Int32) (fb : Nat → Int32) (fr : Nat → Int32) (ba : Int) : Option Value → va_W → Prop := fun v8 w8 => ∃ a2 : Int, ∃ d2 : Int, ∃ f2 : Nat → Int32, v8 = none ∧ w8 = [(h0, ob 8 [.ref xa, .ref xb, .ref xc, .ref xd, .ref xe, .ref xf, .ref xg, .int (iI vc), .int (iI vk), .int (iI vw), .ref xm, .ref xv, .int (iI vg), .ref xw, .int (iI vb), .int (iI vi), .ref xq, .int (iI ve), .int (iI vf), .int (iI vu), .int (iI vl), .ref xr, .ref xh, .ref xo, .ref xp, .int (iI vr), .int (iI a2), .int (iI vt), .int (iI vm), .int (iI d2), .int (iI vx)]), (xw, aI g 72000 f), (xq, aI g 2000 fq), (xf, aI g 16384 fw), (xg, aI g 16384 fb), (xr, aZ g 75000 f2)] ∧ (0 ≤ d2 ∧ d2 ≤ 1) ∧ (va ≤ a2 ∧ a2 ≤ vt)
set_option maxHeartbeats 4000000 in
set_option maxRecDepth 100000 in
theorem c_X8_readOne (l : Launch) (g : GG) (h0 : Nat) (xa : Nat) (xb : Nat) (xc : Nat) (xd : Nat) (xe : Nat) (xf : Nat) (xg : Nat) (xm : Nat) (xv : Nat) (xw : Nat) (xq : Nat) (xr : Nat) (xh : Nat) (xo : Nat) (xp : Nat) (vc : Int) (vk : Int) (vw : Int) (vg : Int) (vb : Int) (vi : Int) (ve : Int) (vf : Int) (vu : Int) (vl : Int) (vr : Int) (va : Int) (vt : Int) (vm : Int) (vd : Int) (vx : Int) (f : Nat → Int32) (fq : Nat → Int32) (fw : Nat → Int32) (fb : Nat → Int32) (fr : Nat → Int32) (ba : Int) (hp0 : sOk vm vt) (hp1 : 0 ≤ vt ∧ vt ≤ 576000) (hp2 : 0 ≤ vl ∧ vl ≤ 1) (hp3 : 0 ≤ vm ∧ vm ≤ 1) (hp4 : rR fw) (hp5 : rR fb) (hp6 : 0 ≤ va ∧ va ≤ vt) (hp7 : vd = 0) (hp8 : 0 ≤ ba ∧ ba + 3000 ≤ 75000) (hp9 : 1 ≤ vw ∧ vw ≤ 3000) : Ct l g yX8_readOne (wM yX8_readOne cX8_readOne 5 none) (rmD 3 0 0) [.ref h0, .int (iI ba)] [(h0, ob 8 [.ref xa, .ref xb, .ref xc, .ref xd, .ref xe, .ref xf, .ref xg, .int (iI vc), .int (iI vk), .int (iI vw), .ref xm, .ref xv, .int (iI vg), .ref xw, .int (iI vb), .int (iI vi), .ref xq, .int (iI ve), .int (iI vf), .int (iI vu), .int (iI vl), .ref xr, .ref xh, .ref xo, .ref xp, .int (iI vr), .int (iI va), .int (iI vt), .int (iI vm), .int (iI vd), .int (iI vx)]), (xw, aI g 72000 f), (xq, aI g 2000 fq), (xf, aI g 16384 fw), (xg, aI g 16384 fb), (xr, aZ g 75000 fr)] (po_c_X8_readOne g h0 xa xb xc xd xe xf xg xm xv xw xq xr xh xo xp vc vk vw vg vb vi ve vf vu vl vr va vt vm vd vx f fq fw fb fr ba) := by
  refine Ct_of (by decide +kernel) (Nat.le_of_ble_eq_true rfl) ?_
  intro p9 e9 s9 m9 ag9 bl9 mt9 c9 A9 fx hr hnm
  refine v_iconst fx dX8_readOne_0 rfl ?_
  refine v_istore_n fx [(2, .int (iI 0)), (0, .ref h0), (1, .int (iI ba))] dX8_readOne_1 (by decide) rfl rfl ?_
  refine v_iconst fx dX8_readOne_2 rfl ?_
  refine v_istore_n fx [(3, .int (iI 0)), (2, .int (iI 0)), (0, .ref h0), (1, .int (iI ba))] dX8_readOne_3 (by decide) rfl rfl ?_
  have L4 : ∀ (N : Nat) (x : Int) (bk : Int) (pa : Int) (pd : Int) (f1 : Nat → Int32), (0 ≤ x ∧ x ≤ vw) → (0 ≤ bk ∧ bk ≤ 1) → (0 ≤ pd ∧ pd ≤ 1) → (va ≤ pa ∧ pa ≤ vt) → ((vt - pa + 1 - pd).toNat) < N → V p9 l e9 (rmD 3 0 0) s9 m9 ag9 bl9 mt9 c9 5 g A9 (MQ bl9 (cQ g (po_c_X8_readOne g h0 xa xb xc xd xe xf xg xm xv xw xq xr xh xo xp vc vk vw vg vb vi ve vf vu vl vr va vt vm vd vx f fq fw fb fr ba) A9) ag9 s9 0 0 A9) [(h0, ob 8 [.ref xa, .ref xb, .ref xc, .ref xd, .ref xe, .ref xf, .ref xg, .int (iI vc), .int (iI vk), .int (iI vw), .ref xm, .ref xv, .int (iI vg), .ref xw, .int (iI vb), .int (iI vi), .ref xq, .int (iI ve), .int (iI vf), .int (iI vu), .int (iI vl), .ref xr, .ref xh, .ref xo, .ref xp, .int (iI vr), .int (iI pa), .int (iI vt), .int (iI vm), .int (iI pd), .int (iI vx)]), (xw, aI g 72000 f), (xq, aI g 2000 fq), (xf, aI g 16384 fw), (xg, aI g 16384 fb), (xr, aZ g 75000 f1)] 0 0 [(0, .ref h0), (1, .int (iI ba)), (2, .int (iI x)), (3, .int (iI bk))] 4 [] := by
    intro N
    induction N with
    | zero => intro x bk pa pd f1 hi4_0 hi4_1 hi4_2 hi4_3 hN; exact absurd hN (Nat.not_lt_zero _)
    | succ N ihL4 =>
      intro x bk pa pd f1 hi4_0 hi4_1 hi4_2 hi4_3 hN4
      refine v_aload_n fx 0 dX8_readOne_4 rfl rfl ?_
      refine v_get fx 0 29 inX8 k1025 dX8_readOne_5 rfl rfl (by decide) rfl rfl rfl ?_
      refine v_if_ne fx 68 dX8_readOne_8 (by decide) rfl (by omega) (fun h_1 => ?_) (fun h_1 => ?_)
      ·
        exact v_vret fx [(h0, ob 8 [.ref xa, .ref xb, .ref xc, .ref xd, .ref xe, .ref xf, .ref xg, .int (iI vc), .int (iI vk), .int (iI vw), .ref xm, .ref xv, .int (iI vg), .ref xw, .int (iI vb), .int (iI vi), .ref xq, .int (iI ve), .int (iI vf), .int (iI vu), .int (iI vl), .ref xr, .ref xh, .ref xo, .ref xp, .int (iI vr), .int (iI pa), .int (iI vt), .int (iI vm), .int (iI pd), .int (iI vx)]), (xw, aI g 72000 f), (xq, aI g 2000 fq), (xf, aI g 16384 fw), (xg, aI g 16384 fb), (xr, aZ g 75000 f1)] [0, 1, 2, 3, 4, 5] hr dX8_readOne_68 rfl rfl (nl rfl) (nl rfl) ⟨pa, pd, f1, rfl, rfl, (by first | omega | rfl | assumption), (by first | omega | rfl | assumption)⟩
      ·
        refine v_iload_n fx 2 dX8_readOne_11 rfl rfl ?_
        refine v_aload_n fx 0 dX8_readOne_12 rfl rfl ?_
        refine v_get fx 0 9 inX8 k1005 dX8_readOne_13 rfl rfl (by decide) rfl rfl rfl ?_
        refine v_icmp_ge fx 68 dX8_readOne_16 (by decide) rfl (by omega) (by omega) (fun h_2 => ?_) (fun h_2 => ?_)
        ·
          exact v_vret fx [(h0, ob 8 [.ref xa, .ref xb, .ref xc, .ref xd, .ref xe, .ref xf, .ref xg, .int (iI vc), .int (iI vk), .int (iI vw), .ref xm, .ref xv, .int (iI vg), .ref xw, .int (iI vb), .int (iI vi), .ref xq, .int (iI ve), .int (iI vf), .int (iI vu), .int (iI vl), .ref xr, .ref xh, .ref xo, .ref xp, .int (iI vr), .int (iI pa), .int (iI vt), .int (iI vm), .int (iI pd), .int (iI vx)]), (xw, aI g 72000 f), (xq, aI g 2000 fq), (xf, aI g 16384 fw), (xg, aI g 16384 fb), (xr, aZ g 75000 f1)] [0, 1, 2, 3, 4, 5] hr dX8_readOne_68 rfl rfl (nl rfl) (nl rfl) ⟨pa, pd, f1, rfl, rfl, (by first | omega | rfl | assumption), (by first | omega | rfl | assumption)⟩
        ·
          refine v_aload_n fx 0 dX8_readOne_19 rfl rfl ?_
          refine v_iload_n fx 3 dX8_readOne_20 rfl rfl ?_
          refine v_aload_n fx 0 dX8_readOne_21 rfl rfl ?_
          refine v_get fx 0 9 inX8 k1005 dX8_readOne_22 rfl rfl (by decide) rfl rfl rfl ?_
          refine v_iload_n fx 2 dX8_readOne_25 rfl rfl ?_
          refine v_isub fx (vw - x) dX8_readOne_26 (by rfl) rfl ?_
          refine v_callV (As := [.int (iI bk), .int (iI (vw - x))]) (rest := []) fx [0, 1, 2, 3, 4] [5] [(h0, ob 8 [.ref xa, .ref xb, .ref xc, .ref xd, .ref xe, .ref xf, .ref xg, .int (iI vc), .int (iI vk), .int (iI vw), .ref xm, .ref xv, .int (iI vg), .ref xw, .int (iI vb), .int (iI vi), .ref xq, .int (iI ve), .int (iI vf), .int (iI vu), .int (iI vl), .ref xr, .ref xh, .ref xo, .ref xp, .int (iI vr), .int (iI pa), .int (iI vt), .int (iI vm), .int (iI pd), .int (iI vx)]), (xw, aI g 72000 f), (xq, aI g 2000 fq), (xf, aI g 16384 fw), (xg, aI g 16384 fb)] [(xr, aZ g 75000 f1)] 2 0 (c_X8_readRun l g h0 xa xb xc xd xe xf xg xm xv xw xq xr xh xo xp vc vk vw vg vb vi ve vf vu vl vr pa vt vm pd vx f fq fw fb bk (vw - x) (by first | omega | decide | assumption) (by first | omega | decide | assumption) (by first | omega | decide | assumption) (by first | omega | decide | assumption) (by first | omega | decide | assumption) (by first | omega | decide | assumption) (by first | omega | decide | assumption) (by first | omega | decide | assumption) (by first | omega | decide | assumption) (by first | omega | decide | assumption)) dX8_readOne_27 k1182 k1184 k38 k57 k1185 ykX8_readRun rfl rfl rfl rfl rfl rfl rfl rfl (nl rfl) ⟨nl rfl, nl rfl⟩ ⟨(nl rfl), (nl rfl)⟩ rfl (fun v9 w9 hu => ?_)
          obtain ⟨r_3, a2_4, d2_5, rfl, rfl, u_6, u_7, u_8⟩ := hu
          refine v_is (wn := [(xr, aZ g 75000 f1), (h0, ob 8 [.ref xa, .ref xb, .ref xc, .ref xd, .ref xe, .ref xf, .ref xg, .int (iI vc), .int (iI vk), .int (iI vw), .ref xm, .ref xv, .int (iI vg), .ref xw, .int (iI vb), .int (iI vi), .ref xq, .int (iI ve), .int (iI vf), .int (iI vu), .int (iI vl), .ref xr, .ref xh, .ref xo, .ref xp, .int (iI vr), .int (iI a2_4), .int (iI vt), .int (iI vm), .int (iI d2_5), .int (iI vx)]), (xw, aI g 72000 f), (xq, aI g 2000 fq), (xf, aI g 16384 fw), (xg, aI g 16384 fb)]) (cn := 0) (sn := 0) (sn2 := [.int (iI r_3)]) rfl rfl rfl rfl ?_
          refine v_istore fx [(4, .int (iI r_3)), (0, .ref h0), (1, .int (iI ba)), (2, .int (iI x)), (3, .int (iI bk))] dX8_readOne_30 (by decide) rfl rfl ?_
          refine v_aload_n fx 1 dX8_readOne_32 rfl rfl ?_
          refine v_get fx 1 29 inX8 k1025 dX8_readOne_33 rfl rfl (by decide) rfl rfl rfl ?_
          refine v_if_ne fx 65 dX8_readOne_36 (by decide) rfl (by omega) (fun h_9 => ?_) (fun h_9 => ?_)
          ·
            refine v_goto fx 4 dX8_readOne_65 (by decide) ?_
            refine v_ws [1, 2, 3, 4, 5, 0] [(h0, ob 8 [.ref xa, .ref xb, .ref xc, .ref xd, .ref xe, .ref xf, .ref xg, .int (iI vc), .int (iI vk), .int (iI vw), .ref xm, .ref xv, .int (iI vg), .ref xw, .int (iI vb), .int (iI vi), .ref xq, .int (iI ve), .int (iI vf), .int (iI vu), .int (iI vl), .ref xr, .ref xh, .ref xo, .ref xp, .int (iI vr), .int (iI a2_4), .int (iI vt), .int (iI vm), .int (iI d2_5), .int (iI vx)]), (xw, aI g 72000 f), (xq, aI g 2000 fq), (xf, aI g 16384 fw), (xg, aI g 16384 fb), (xr, aZ g 75000 f1)] rfl rfl ?_
            refine v_lv [1, 2, 3, 4] [(0, .ref h0), (1, .int (iI ba)), (2, .int (iI x)), (3, .int (iI bk))] rfl ?_
            exact ihL4 x bk a2_4 d2_5 f1 (by omega) (by omega) (by omega) (by omega) (by omega)
          ·
            refine v_aload_n fx 1 dX8_readOne_39 rfl rfl ?_
            refine v_iload_n fx 2 dX8_readOne_40 rfl rfl ?_
            refine v_iload_n fx 3 dX8_readOne_41 rfl rfl ?_
            refine v_iload_n fx 3 dX8_readOne_42 rfl rfl ?_
            refine v_iload fx 0 dX8_readOne_43 rfl rfl ?_
            refine v_iadd fx (x + r_3) dX8_readOne_45 (by rfl) rfl ?_
            refine v_iload_n fx 4 dX8_readOne_46 rfl rfl ?_
            refine v_callV (As := [.int (iI ba), .int (iI x), .int (iI (x + r_3)), .int (iI bk)]) (rest := []) fx [1, 0] [2, 3, 4, 5] [(h0, ob 8 [.ref xa, .ref xb, .ref xc, .ref xd, .ref xe, .ref xf, .ref xg, .int (iI vc), .int (iI vk), .int (iI vw), .ref xm, .ref xv, .int (iI vg), .ref xw, .int (iI vb), .int (iI vi), .ref xq, .int (iI ve), .int (iI vf), .int (iI vu), .int (iI vl), .ref xr, .ref xh, .ref xo, .ref xp, .int (iI vr), .int (iI a2_4), .int (iI vt), .int (iI vm), .int (iI d2_5), .int (iI vx)]), (xr, aZ g 75000 f1)] [(xw, aI g 72000 f), (xq, aI g 2000 fq), (xf, aI g 16384 fw), (xg, aI g 16384 fb)] 4 0 (c_X8_paint l g h0 xa xb xc xd xe xf xg xm xv xw xq xr xh xo xp vc vk vw vg vb vi ve vf vu vl vr a2_4 vt vm d2_5 vx f1 ba x (x + r_3) bk (by first | omega | decide | assumption) (by first | omega | decide | assumption) (by first | omega | decide | assumption)) dX8_readOne_47 k1174 k1176 k36 k57 k1177 ykX8_paint rfl rfl rfl rfl rfl rfl rfl rfl (nl rfl) ⟨nl rfl, nl rfl⟩ ⟨(nl rfl), (nl rfl)⟩ rfl (fun v9 w9 hu => ?_)
            obtain ⟨f2_10, rfl, rfl⟩ := hu
            refine v_is (wn := [(xw, aI g 72000 f), (xq, aI g 2000 fq), (xf, aI g 16384 fw), (xg, aI g 16384 fb), (h0, ob 8 [.ref xa, .ref xb, .ref xc, .ref xd, .ref xe, .ref xf, .ref xg, .int (iI vc), .int (iI vk), .int (iI vw), .ref xm, .ref xv, .int (iI vg), .ref xw, .int (iI vb), .int (iI vi), .ref xq, .int (iI ve), .int (iI vf), .int (iI vu), .int (iI vl), .ref xr, .ref xh, .ref xo, .ref xp, .int (iI vr), .int (iI a2_4), .int (iI vt), .int (iI vm), .int (iI d2_5), .int (iI vx)]), (xr, aZ g 75000 f2_10)]) (cn := 0) (sn := 0) (sn2 := []) rfl rfl rfl rfl ?_
            refine v_iload_n fx 3 dX8_readOne_50 rfl rfl ?_
            refine v_iload fx 0 dX8_readOne_51 rfl rfl ?_
            refine v_iadd fx (x + r_3) dX8_readOne_53 (by rfl) rfl ?_
            refine v_istore_n fx [(2, .int (iI (x + r_3))), (4, .int (iI r_3)), (0, .ref h0), (1, .int (iI ba)), (3, .int (iI bk))] dX8_readOne_54 (by decide) rfl rfl ?_
            refine v_iload_n fx 4 dX8_readOne_55 rfl rfl ?_
            refine v_if_ne fx 63 dX8_readOne_56 (by decide) rfl (by omega) (fun h_11 => ?_) (fun h_11 => ?_)
            ·
              refine v_iconst fx dX8_readOne_63 rfl ?_
              refine v_istore_n fx [(3, .int (iI 0)), (2, .int (iI (x + r_3))), (4, .int (iI r_3)), (0, .ref h0), (1, .int (iI ba))] dX8_readOne_64 (by decide) rfl rfl ?_
              refine v_goto fx 4 dX8_readOne_65 (by decide) ?_
              refine v_ws [4, 0, 1, 2, 3, 5] [(h0, ob 8 [.ref xa, .ref xb, .ref xc, .ref xd, .ref xe, .ref xf, .ref xg, .int (iI vc), .int (iI vk), .int (iI vw), .ref xm, .ref xv, .int (iI vg), .ref xw, .int (iI vb), .int (iI vi), .ref xq, .int (iI ve), .int (iI vf), .int (iI vu), .int (iI vl), .ref xr, .ref xh, .ref xo, .ref xp, .int (iI vr), .int (iI a2_4), .int (iI vt), .int (iI vm), .int (iI d2_5), .int (iI vx)]), (xw, aI g 72000 f), (xq, aI g 2000 fq), (xf, aI g 16384 fw), (xg, aI g 16384 fb), (xr, aZ g 75000 f2_10)] rfl rfl ?_
              refine v_lv [3, 4, 1, 0] [(0, .ref h0), (1, .int (iI ba)), (2, .int (iI (x + r_3))), (3, .int (iI 0))] rfl ?_
              exact ihL4 (x + r_3) 0 a2_4 d2_5 f2_10 (by omega) (by omega) (by omega) (by omega) (by omega)
            ·
              refine v_iconst fx dX8_readOne_59 rfl ?_
              refine v_goto fx 64 dX8_readOne_60 (by decide) ?_
              refine v_istore_n fx [(3, .int (iI 1)), (2, .int (iI (x + r_3))), (4, .int (iI r_3)), (0, .ref h0), (1, .int (iI ba))] dX8_readOne_64 (by decide) rfl rfl ?_
              refine v_goto fx 4 dX8_readOne_65 (by decide) ?_
              refine v_ws [4, 0, 1, 2, 3, 5] [(h0, ob 8 [.ref xa, .ref xb, .ref xc, .ref xd, .ref xe, .ref xf, .ref xg, .int (iI vc), .int (iI vk), .int (iI vw), .ref xm, .ref xv, .int (iI vg), .ref xw, .int (iI vb), .int (iI vi), .ref xq, .int (iI ve), .int (iI vf), .int (iI vu), .int (iI vl), .ref xr, .ref xh, .ref xo, .ref xp, .int (iI vr), .int (iI a2_4), .int (iI vt), .int (iI vm), .int (iI d2_5), .int (iI vx)]), (xw, aI g 72000 f), (xq, aI g 2000 fq), (xf, aI g 16384 fw), (xg, aI g 16384 fb), (xr, aZ g 75000 f2_10)] rfl rfl ?_
              refine v_lv [3, 4, 1, 0] [(0, .ref h0), (1, .int (iI ba)), (2, .int (iI (x + r_3))), (3, .int (iI 1))] rfl ?_
              exact ihL4 (x + r_3) 1 a2_4 d2_5 f2_10 (by omega) (by omega) (by omega) (by omega) (by omega)
  refine v_lv [2, 3, 1, 0] [(0, .ref h0), (1, .int (iI ba)), (2, .int (iI 0)), (3, .int (iI 0))] rfl ?_
  exact L4 _ 0 0 va vd fr (by omega) (by omega) (by omega) (by omega) (Nat.lt_succ_self _)
theorem dX8_readMode_0 : decode cX8_readMode 0 = .ok (.iconst 1, 1) := by decide +kernel
theorem dX8_readMode_1 : decode cX8_readMode 1 = .ok (.istore_n 1, 1) := by decide +kernel
theorem dX8_readMode_2 : decode cX8_readMode 2 = .ok (.aload_n 0, 1) := by decide +kernel
theorem dX8_readMode_3 : decode cX8_readMode 3 = .ok (.getfield 139, 3) := by decide +kernel
theorem dX8_readMode_6 : decode cX8_readMode 6 = .ok (.istore_n 2, 1) := by decide +kernel
theorem dX8_readMode_7 : decode cX8_readMode 7 = .ok (.iload_n 2, 1) := by decide +kernel
theorem dX8_readMode_8 : decode cX8_readMode 8 = .ok (.aload_n 0, 1) := by decide +kernel
theorem dX8_readMode_9 : decode cX8_readMode 9 = .ok (.getfield 129, 3) := by decide +kernel
theorem dX8_readMode_12 : decode cX8_readMode 12 = .ok (.if_icmp .ge 134, 3) := by decide +kernel
theorem dX8_readMode_15 : decode cX8_readMode 15 = .ok (.iload_n 1, 1) := by decide +kernel
theorem dX8_readMode_16 : decode cX8_readMode 16 = .ok (.sipush 128, 3) := by decide +kernel
theorem dX8_readMode_19 : decode cX8_readMode 19 = .ok (.if_icmp .ge 127, 3) := by decide +kernel
theorem dX8_readMode_22 : decode cX8_readMode 22 = .ok (.iconst 2, 1) := by decide +kernel
theorem dX8_readMode_23 : decode cX8_readMode 23 = .ok (.iload_n 1, 1) := by decide +kernel
theorem dX8_readMode_24 : decode cX8_readMode 24 = .ok (.imul, 1) := by decide +kernel
theorem dX8_readMode_25 : decode cX8_readMode 25 = .ok (.aload_n 0, 1) := by decide +kernel
theorem dX8_readMode_26 : decode cX8_readMode 26 = .ok (.iload_n 2, 1) := by decide +kernel
theorem dX8_readMode_27 : decode cX8_readMode 27 = .ok (.invokevirtual 132, 3) := by decide +kernel
theorem dX8_readMode_30 : decode cX8_readMode 30 = .ok (.iadd, 1) := by decide +kernel
theorem dX8_readMode_31 : decode cX8_readMode 31 = .ok (.istore_n 1, 1) := by decide +kernel
theorem dX8_readMode_32 : decode cX8_readMode 32 = .ok (.iinc 2 1, 3) := by decide +kernel
theorem dX8_readMode_35 : decode cX8_readMode 35 = .ok (.iload_n 1, 1) := by decide +kernel
theorem dX8_readMode_36 : decode cX8_readMode 36 = .ok (.iconst 3, 1) := by decide +kernel
theorem dX8_readMode_37 : decode cX8_readMode 37 = .ok (.if_icmp .ne 7, 3) := by decide +kernel
theorem dX8_readMode_40 : decode cX8_readMode 40 = .ok (.iconst 5, 1) := by decide +kernel
theorem dX8_readMode_41 : decode cX8_readMode 41 = .ok (.goto 89, 3) := by decide +kernel
theorem dX8_readMode_44 : decode cX8_readMode 44 = .ok (.iload_n 1, 1) := by decide +kernel
theorem dX8_readMode_45 : decode cX8_readMode 45 = .ok (.bipush 11, 2) := by decide +kernel
theorem dX8_readMode_47 : decode cX8_readMode 47 = .ok (.if_icmp .ne 8, 3) := by decide +kernel
theorem dX8_readMode_50 : decode cX8_readMode 50 = .ok (.bipush 6, 2) := by decide +kernel
theorem dX8_readMode_52 : decode cX8_readMode 52 = .ok (.goto 78, 3) := by decide +kernel
theorem dX8_readMode_55 : decode cX8_readMode 55 = .ok (.iload_n 1, 1) := by decide +kernel
theorem dX8_readMode_56 : decode cX8_readMode 56 = .ok (.bipush 10, 2) := by decide +kernel
theorem dX8_readMode_58 : decode cX8_readMode 58 = .ok (.if_icmp .ne 7, 3) := by decide +kernel
theorem dX8_readMode_61 : decode cX8_readMode 61 = .ok (.iconst 4, 1) := by decide +kernel
theorem dX8_readMode_62 : decode cX8_readMode 62 = .ok (.goto 68, 3) := by decide +kernel
theorem dX8_readMode_65 : decode cX8_readMode 65 = .ok (.iload_n 1, 1) := by decide +kernel
theorem dX8_readMode_66 : decode cX8_readMode 66 = .ok (.bipush 9, 2) := by decide +kernel
theorem dX8_readMode_68 : decode cX8_readMode 68 = .ok (.if_icmp .ne 7, 3) := by decide +kernel
theorem dX8_readMode_71 : decode cX8_readMode 71 = .ok (.iconst 1, 1) := by decide +kernel
theorem dX8_readMode_72 : decode cX8_readMode 72 = .ok (.goto 58, 3) := by decide +kernel
theorem dX8_readMode_75 : decode cX8_readMode 75 = .ok (.iload_n 1, 1) := by decide +kernel
theorem dX8_readMode_76 : decode cX8_readMode 76 = .ok (.bipush 17, 2) := by decide +kernel
theorem dX8_readMode_78 : decode cX8_readMode 78 = .ok (.if_icmp .ne 7, 3) := by decide +kernel
theorem dX8_readMode_81 : decode cX8_readMode 81 = .ok (.iconst 0, 1) := by decide +kernel
theorem dX8_readMode_82 : decode cX8_readMode 82 = .ok (.goto 48, 3) := by decide +kernel
theorem dX8_readMode_85 : decode cX8_readMode 85 = .ok (.iload_n 1, 1) := by decide +kernel
theorem dX8_readMode_86 : decode cX8_readMode 86 = .ok (.bipush 67, 2) := by decide +kernel
theorem dX8_readMode_88 : decode cX8_readMode 88 = .ok (.if_icmp .ne 8, 3) := by decide +kernel
theorem dX8_readMode_91 : decode cX8_readMode 91 = .ok (.bipush 7, 2) := by decide +kernel
theorem dX8_readMode_93 : decode cX8_readMode 93 = .ok (.goto 37, 3) := by decide +kernel
theorem dX8_readMode_96 : decode cX8_readMode 96 = .ok (.iload_n 1, 1) := by decide +kernel
theorem dX8_readMode_97 : decode cX8_readMode 97 = .ok (.bipush 66, 2) := by decide +kernel
theorem dX8_readMode_99 : decode cX8_readMode 99 = .ok (.if_icmp .ne 7, 3) := by decide +kernel
theorem dX8_readMode_102 : decode cX8_readMode 102 = .ok (.iconst 3, 1) := by decide +kernel
theorem dX8_readMode_103 : decode cX8_readMode 103 = .ok (.goto 27, 3) := by decide +kernel
theorem dX8_readMode_106 : decode cX8_readMode 106 = .ok (.iload_n 1, 1) := by decide +kernel
theorem dX8_readMode_107 : decode cX8_readMode 107 = .ok (.sipush 131, 3) := by decide +kernel
theorem dX8_readMode_110 : decode cX8_readMode 110 = .ok (.if_icmp .ne 8, 3) := by decide +kernel
theorem dX8_readMode_113 : decode cX8_readMode 113 = .ok (.bipush 8, 2) := by decide +kernel
theorem dX8_readMode_115 : decode cX8_readMode 115 = .ok (.goto 15, 3) := by decide +kernel
theorem dX8_readMode_118 : decode cX8_readMode 118 = .ok (.iload_n 1, 1) := by decide +kernel
theorem dX8_readMode_119 : decode cX8_readMode 119 = .ok (.sipush 130, 3) := by decide +kernel
theorem dX8_readMode_122 : decode cX8_readMode 122 = .ok (.if_icmp .ne 7, 3) := by decide +kernel
theorem dX8_readMode_125 : decode cX8_readMode 125 = .ok (.iconst 2, 1) := by decide +kernel
theorem dX8_readMode_126 : decode cX8_readMode 126 = .ok (.goto 4, 3) := by decide +kernel
theorem dX8_readMode_129 : decode cX8_readMode 129 = .ok (.iconst (-1), 1) := by decide +kernel
theorem dX8_readMode_130 : decode cX8_readMode 130 = .ok (.istore_n 3, 1) := by decide +kernel
theorem dX8_readMode_131 : decode cX8_readMode 131 = .ok (.iload_n 3, 1) := by decide +kernel
theorem dX8_readMode_132 : decode cX8_readMode 132 = .ok (.iconst (-1), 1) := by decide +kernel
theorem dX8_readMode_133 : decode cX8_readMode 133 = .ok (.if_icmp .eq 10, 3) := by decide +kernel
theorem dX8_readMode_136 : decode cX8_readMode 136 = .ok (.aload_n 0, 1) := by decide +kernel
theorem dX8_readMode_137 : decode cX8_readMode 137 = .ok (.iload_n 2, 1) := by decide +kernel
theorem dX8_readMode_138 : decode cX8_readMode 138 = .ok (.putfield 139, 3) := by decide +kernel
theorem dX8_readMode_141 : decode cX8_readMode 141 = .ok (.iload_n 3, 1) := by decide +kernel
theorem dX8_readMode_142 : decode cX8_readMode 142 = .ok (.ireturn, 1) := by decide +kernel
theorem dX8_readMode_143 : decode cX8_readMode 143 = .ok (.goto (-136), 3) := by decide +kernel
theorem dX8_readMode_146 : decode cX8_readMode 146 = .ok (.aload_n 0, 1) := by decide +kernel
theorem dX8_readMode_147 : decode cX8_readMode 147 = .ok (.iload_n 1, 1) := by decide +kernel
theorem dX8_readMode_148 : decode cX8_readMode 148 = .ok (.sipush 129, 3) := by decide +kernel
theorem dX8_readMode_151 : decode cX8_readMode 151 = .ok (.if_icmp .ne 7, 3) := by decide +kernel
theorem dX8_readMode_154 : decode cX8_readMode 154 = .ok (.iconst 1, 1) := by decide +kernel
theorem dX8_readMode_155 : decode cX8_readMode 155 = .ok (.goto 4, 3) := by decide +kernel
theorem dX8_readMode_158 : decode cX8_readMode 158 = .ok (.iconst 0, 1) := by decide +kernel
theorem dX8_readMode_159 : decode cX8_readMode 159 = .ok (.putfield 157, 3) := by decide +kernel
theorem dX8_readMode_162 : decode cX8_readMode 162 = .ok (.aload_n 0, 1) := by decide +kernel
theorem dX8_readMode_163 : decode cX8_readMode 163 = .ok (.iconst 1, 1) := by decide +kernel
theorem dX8_readMode_164 : decode cX8_readMode 164 = .ok (.putfield 142, 3) := by decide +kernel
theorem dX8_readMode_167 : decode cX8_readMode 167 = .ok (.iconst (-1), 1) := by decide +kernel
theorem dX8_readMode_168 : decode cX8_readMode 168 = .ok (.ireturn, 1) := by decide +kernel
abbrev po_c_X8_readMode (g : GG) (h0 : Nat) (xa : Nat) (xb : Nat) (xc : Nat) (xd : Nat) (xe : Nat) (xf : Nat) (xg : Nat) (xm : Nat) (xv : Nat) (xw : Nat) (xq : Nat) (xr : Nat) (xh : Nat) (xo : Nat) (xp : Nat) (vc : Int) (vk : Int) (vw : Int) (vg : Int) (vb : Int) (vi : Int) (ve : Int) (vf : Int) (vu : Int) (vl : Int) (vr : Int) (va : Int) (vt : Int) (vm : Int) (vd : Int) (vx : Int) (f : Nat → Int32) (fq : Nat → Int32) : Option Value → va_W → Prop := fun v8 w8 => ∃ q : Int, ∃ a2 : Int, ∃ d2 : Int, ∃ x2 : Int, v8 = some (.int (iI q)) ∧ w8 = [(h0, ob 8 [.ref xa, .ref xb, .ref xc, .ref xd, .ref xe, .ref xf, .ref xg, .int (iI vc), .int (iI vk), .int (iI vw), .ref xm, .ref xv, .int (iI vg), .ref xw, .int (iI vb), .int (iI vi), .ref xq, .int (iI ve), .int (iI vf), .int (iI vu), .int (iI vl), .ref xr, .ref xh, .ref xo, .ref xp, .int (iI vr), .int (iI a2), .int (iI vt), .int (iI vm), .int (iI d2), .int (iI x2)]), (xw, aI g 72000 f), (xq, aI g 2000 fq)] ∧ (-1 ≤ q ∧ q ≤ 8 ∧ 0 ≤ q + d2) ∧ (0 ≤ d2 ∧ d2 ≤ 1) ∧ (va ≤ a2 ∧ a2 ≤ vt ∧ va < a2 + d2) ∧ (0 ≤ x2 ∧ x2 ≤ 1)
set_option maxHeartbeats 4000000 in
set_option maxRecDepth 100000 in
theorem c_X8_readMode (l : Launch) (g : GG) (h0 : Nat) (xa : Nat) (xb : Nat) (xc : Nat) (xd : Nat) (xe : Nat) (xf : Nat) (xg : Nat) (xm : Nat) (xv : Nat) (xw : Nat) (xq : Nat) (xr : Nat) (xh : Nat) (xo : Nat) (xp : Nat) (vc : Int) (vk : Int) (vw : Int) (vg : Int) (vb : Int) (vi : Int) (ve : Int) (vf : Int) (vu : Int) (vl : Int) (vr : Int) (va : Int) (vt : Int) (vm : Int) (vd : Int) (vx : Int) (f : Nat → Int32) (fq : Nat → Int32) (hp0 : sOk vm vt) (hp1 : 0 ≤ vt ∧ vt ≤ 576000) (hp2 : 0 ≤ vl ∧ vl ≤ 1) (hp3 : 0 ≤ vm ∧ vm ≤ 1) (hp4 : 0 ≤ va ∧ va ≤ vt) (hp5 : vd = 0) (hp6 : 0 ≤ vx ∧ vx ≤ 1) : Ct l g yX8_readMode (wM yX8_readMode cX8_readMode 4 (some .int)) (rmD 1 0 0) [.ref h0] [(h0, ob 8 [.ref xa, .ref xb, .ref xc, .ref xd, .ref xe, .ref xf, .ref xg, .int (iI vc), .int (iI vk), .int (iI vw), .ref xm, .ref xv, .int (iI vg), .ref xw, .int (iI vb), .int (iI vi), .ref xq, .int (iI ve), .int (iI vf), .int (iI vu), .int (iI vl), .ref xr, .ref xh, .ref xo, .ref xp, .int (iI vr), .int (iI va), .int (iI vt), .int (iI vm), .int (iI vd), .int (iI vx)]), (xw, aI g 72000 f), (xq, aI g 2000 fq)] (po_c_X8_readMode g h0 xa xb xc xd xe xf xg xm xv xw xq xr xh xo xp vc vk vw vg vb vi ve vf vu vl vr va vt vm vd vx f fq) := by
  refine Ct_of (by decide +kernel) (Nat.le_of_ble_eq_true rfl) ?_
  intro p9 e9 s9 m9 ag9 bl9 mt9 c9 A9 fx hr hnm
  refine v_iconst fx dX8_readMode_0 rfl ?_
  refine v_istore_n fx [(1, .int (iI 1)), (0, .ref h0)] dX8_readMode_1 (by decide) rfl rfl ?_
  refine v_aload_n fx 1 dX8_readMode_2 rfl rfl ?_
  refine v_get fx 0 26 inX8 k1022 dX8_readMode_3 rfl rfl (by decide) rfl rfl rfl ?_
  refine v_istore_n fx [(2, .int (iI va)), (1, .int (iI 1)), (0, .ref h0)] dX8_readMode_6 (by decide) rfl rfl ?_
  have L7 : ∀ (N : Nat) (v : Int) (p : Int), (1 ≤ v ∧ v ≤ 255) → (va ≤ p ∧ p ≤ vt) → ((vt - p).toNat) < N → V p9 l e9 (rmD 1 0 0) s9 m9 ag9 bl9 mt9 c9 4 g A9 (MQ bl9 (cQ g (po_c_X8_readMode g h0 xa xb xc xd xe xf xg xm xv xw xq xr xh xo xp vc vk vw vg vb vi ve vf vu vl vr va vt vm vd vx f fq) A9) ag9 s9 0 0 A9) [(h0, ob 8 [.ref xa, .ref xb, .ref xc, .ref xd, .ref xe, .ref xf, .ref xg, .int (iI vc), .int (iI vk), .int (iI vw), .ref xm, .ref xv, .int (iI vg), .ref xw, .int (iI vb), .int (iI vi), .ref xq, .int (iI ve), .int (iI vf), .int (iI vu), .int (iI vl), .ref xr, .ref xh, .ref xo, .ref xp, .int (iI vr), .int (iI va), .int (iI vt), .int (iI vm), .int (iI vd), .int (iI vx)]), (xw, aI g 72000 f), (xq, aI g 2000 fq)] 0 0 [(0, .ref h0), (1, .int (iI v)), (2, .int (iI p))] 7 [] := by
    intro N
    induction N with
    | zero => intro v p hi7_0 hi7_1 hN; exact absurd hN (Nat.not_lt_zero _)
    | succ N ihL7 =>
      intro v p hi7_0 hi7_1 hN7
      refine v_iload_n fx 2 dX8_readMode_7 rfl rfl ?_
      refine v_aload_n fx 0 dX8_readMode_8 rfl rfl ?_
      refine v_get fx 0 27 inX8 k1023 dX8_readMode_9 rfl rfl (by decide) rfl rfl rfl ?_
      refine v_icmp_ge fx 146 dX8_readMode_12 (by decide) rfl (by omega) (by omega) (fun h_1 => ?_) (fun h_1 => ?_)
      ·
        refine v_aload_n fx 0 dX8_readMode_146 rfl rfl ?_
        refine v_iload_n fx 1 dX8_readMode_147 rfl rfl ?_
        refine v_sipush fx dX8_readMode_148 (by decide +kernel) rfl ?_
        refine v_icmp_ne fx 158 dX8_readMode_151 (by decide) rfl (by omega) (by omega) (fun h_2 => ?_) (fun h_2 => ?_)
        ·
          refine v_iconst fx dX8_readMode_158 rfl ?_
          refine v_put fx 0 30 [(h0, ob 8 [.ref xa, .ref xb, .ref xc, .ref xd, .ref xe, .ref xf, .ref xg, .int (iI vc), .int (iI vk), .int (iI vw), .ref xm, .ref xv, .int (iI vg), .ref xw, .int (iI vb), .int (iI vi), .ref xq, .int (iI ve), .int (iI vf), .int (iI vu), .int (iI vl), .ref xr, .ref xh, .ref xo, .ref xp, .int (iI vr), .int (iI va), .int (iI vt), .int (iI vm), .int (iI vd), .int (iI 0)]), (xw, aI g 72000 f), (xq, aI g 2000 fq)] inX8 tyX8_ok nmX8 k1026 dX8_readMode_159 rfl rfl (by decide) rfl rfl rfl rfl (nl rfl) rfl rfl ?_
          refine v_aload_n fx 0 dX8_readMode_162 rfl rfl ?_
          refine v_iconst fx dX8_readMode_163 rfl ?_
          refine v_put fx 0 29 [(h0, ob 8 [.ref xa, .ref xb, .ref xc, .ref xd, .ref xe, .ref xf, .ref xg, .int (iI vc), .int (iI vk), .int (iI vw), .ref xm, .ref xv, .int (iI vg), .ref xw, .int (iI vb), .int (iI vi), .ref xq, .int (iI ve), .int (iI vf), .int (iI vu), .int (iI vl), .ref xr, .ref xh, .ref xo, .ref xp, .int (iI vr), .int (iI va), .int (iI vt), .int (iI vm), .int (iI 1), .int (iI 0)]), (xw, aI g 72000 f), (xq, aI g 2000 fq)] inX8 tyX8_ok nmX8 k1025 dX8_readMode_164 rfl rfl (by decide) rfl rfl rfl rfl (nl rfl) rfl rfl ?_
          refine v_iconst fx dX8_readMode_167 rfl ?_
          exact v_iret fx [(h0, ob 8 [.ref xa, .ref xb, .ref xc, .ref xd, .ref xe, .ref xf, .ref xg, .int (iI vc), .int (iI vk), .int (iI vw), .ref xm, .ref xv, .int (iI vg), .ref xw, .int (iI vb), .int (iI vi), .ref xq, .int (iI ve), .int (iI vf), .int (iI vu), .int (iI vl), .ref xr, .ref xh, .ref xo, .ref xp, .int (iI vr), .int (iI va), .int (iI vt), .int (iI vm), .int (iI 1), .int (iI 0)]), (xw, aI g 72000 f), (xq, aI g 2000 fq)] [0, 1, 2] hr dX8_readMode_168 rfl rfl (nl rfl) (nl rfl) ⟨(-1), va, 1, 0, rfl, rfl, (by first | omega | rfl | assumption), (by first | omega | rfl | assumption), (by first | omega | rfl | assumption), (by first | omega | rfl | assumption)⟩
        ·
          refine v_iconst fx dX8_readMode_154 rfl ?_
          refine v_goto fx 159 dX8_readMode_155 (by decide) ?_
          refine v_put fx 0 30 [(h0, ob 8 [.ref xa, .ref xb, .ref xc, .ref xd, .ref xe, .ref xf, .ref xg, .int (iI vc), .int (iI vk), .int (iI vw), .ref xm, .ref xv, .int (iI vg), .ref xw, .int (iI vb), .int (iI vi), .ref xq, .int (iI ve), .int (iI vf), .int (iI vu), .int (iI vl), .ref xr, .ref xh, .ref xo, .ref xp, .int (iI vr), .int (iI va), .int (iI vt), .int (iI vm), .int (iI vd), .int (iI 1)]), (xw, aI g 72000 f), (xq, aI g 2000 fq)] inX8 tyX8_ok nmX8 k1026 dX8_readMode_159 rfl rfl (by decide) rfl rfl rfl rfl (nl rfl) rfl rfl ?_
          refine v_aload_n fx 0 dX8_readMode_162 rfl rfl ?_
          refine v_iconst fx dX8_readMode_163 rfl ?_
          refine v_put fx 0 29 [(h0, ob 8 [.ref xa, .ref xb, .ref xc, .ref xd, .ref xe, .ref xf, .ref xg, .int (iI vc), .int (iI vk), .int (iI vw), .ref xm, .ref xv, .int (iI vg), .ref xw, .int (iI vb), .int (iI vi), .ref xq, .int (iI ve), .int (iI vf), .int (iI vu), .int (iI vl), .ref xr, .ref xh, .ref xo, .ref xp, .int (iI vr), .int (iI va), .int (iI vt), .int (iI vm), .int (iI 1), .int (iI 1)]), (xw, aI g 72000 f), (xq, aI g 2000 fq)] inX8 tyX8_ok nmX8 k1025 dX8_readMode_164 rfl rfl (by decide) rfl rfl rfl rfl (nl rfl) rfl rfl ?_
          refine v_iconst fx dX8_readMode_167 rfl ?_
          exact v_iret fx [(h0, ob 8 [.ref xa, .ref xb, .ref xc, .ref xd, .ref xe, .ref xf, .ref xg, .int (iI vc), .int (iI vk), .int (iI vw), .ref xm, .ref xv, .int (iI vg), .ref xw, .int (iI vb), .int (iI vi), .ref xq, .int (iI ve), .int (iI vf), .int (iI vu), .int (iI vl), .ref xr, .ref xh, .ref xo, .ref xp, .int (iI vr), .int (iI va), .int (iI vt), .int (iI vm), .int (iI 1), .int (iI 1)]), (xw, aI g 72000 f), (xq, aI g 2000 fq)] [0, 1, 2] hr dX8_readMode_168 rfl rfl (nl rfl) (nl rfl) ⟨(-1), va, 1, 1, rfl, rfl, (by first | omega | rfl | assumption), (by first | omega | rfl | assumption), (by first | omega | rfl | assumption), (by first | omega | rfl | assumption)⟩
      ·
        refine v_iload_n fx 1 dX8_readMode_15 rfl rfl ?_
        refine v_sipush fx dX8_readMode_16 (by decide +kernel) rfl ?_
        refine v_icmp_ge fx 146 dX8_readMode_19 (by decide) rfl (by omega) (by omega) (fun h_3 => ?_) (fun h_3 => ?_)
        ·
          refine v_aload_n fx 0 dX8_readMode_146 rfl rfl ?_
          refine v_iload_n fx 1 dX8_readMode_147 rfl rfl ?_
          refine v_sipush fx dX8_readMode_148 (by decide +kernel) rfl ?_
          refine v_icmp_ne fx 158 dX8_readMode_151 (by decide) rfl (by omega) (by omega) (fun h_4 => ?_) (fun h_4 => ?_)
          ·
            refine v_iconst fx dX8_readMode_158 rfl ?_
            refine v_put fx 0 30 [(h0, ob 8 [.ref xa, .ref xb, .ref xc, .ref xd, .ref xe, .ref xf, .ref xg, .int (iI vc), .int (iI vk), .int (iI vw), .ref xm, .ref xv, .int (iI vg), .ref xw, .int (iI vb), .int (iI vi), .ref xq, .int (iI ve), .int (iI vf), .int (iI vu), .int (iI vl), .ref xr, .ref xh, .ref xo, .ref xp, .int (iI vr), .int (iI va), .int (iI vt), .int (iI vm), .int (iI vd), .int (iI 0)]), (xw, aI g 72000 f), (xq, aI g 2000 fq)] inX8 tyX8_ok nmX8 k1026 dX8_readMode_159 rfl rfl (by decide) rfl rfl rfl rfl (nl rfl) rfl rfl ?_
            refine v_aload_n fx 0 dX8_readMode_162 rfl rfl ?_
            refine v_iconst fx dX8_readMode_163 rfl ?_
            refine v_put fx 0 29 [(h0, ob 8 [.ref xa, .ref xb, .ref xc, .ref xd, .ref xe, .ref xf, .ref xg, .int (iI vc), .int (iI vk), .int (iI vw), .ref xm, .ref xv, .int (iI vg), .ref xw, .int (iI vb), .int (iI vi), .ref xq, .int (iI ve), .int (iI vf), .int (iI vu), .int (iI vl), .ref xr, .ref xh, .ref xo, .ref xp, .int (iI vr), .int (iI va), .int (iI vt), .int (iI vm), .int (iI 1), .int (iI 0)]), (xw, aI g 72000 f), (xq, aI g 2000 fq)] inX8 tyX8_ok nmX8 k1025 dX8_readMode_164 rfl rfl (by decide) rfl rfl rfl rfl (nl rfl) rfl rfl ?_
            refine v_iconst fx dX8_readMode_167 rfl ?_
            exact v_iret fx [(h0, ob 8 [.ref xa, .ref xb, .ref xc, .ref xd, .ref xe, .ref xf, .ref xg, .int (iI vc), .int (iI vk), .int (iI vw), .ref xm, .ref xv, .int (iI vg), .ref xw, .int (iI vb), .int (iI vi), .ref xq, .int (iI ve), .int (iI vf), .int (iI vu), .int (iI vl), .ref xr, .ref xh, .ref xo, .ref xp, .int (iI vr), .int (iI va), .int (iI vt), .int (iI vm), .int (iI 1), .int (iI 0)]), (xw, aI g 72000 f), (xq, aI g 2000 fq)] [0, 1, 2] hr dX8_readMode_168 rfl rfl (nl rfl) (nl rfl) ⟨(-1), va, 1, 0, rfl, rfl, (by first | omega | rfl | assumption), (by first | omega | rfl | assumption), (by first | omega | rfl | assumption), (by first | omega | rfl | assumption)⟩
          ·
            refine v_iconst fx dX8_readMode_154 rfl ?_
            refine v_goto fx 159 dX8_readMode_155 (by decide) ?_
            refine v_put fx 0 30 [(h0, ob 8 [.ref xa, .ref xb, .ref xc, .ref xd, .ref xe, .ref xf, .ref xg, .int (iI vc), .int (iI vk), .int (iI vw), .ref xm, .ref xv, .int (iI vg), .ref xw, .int (iI vb), .int (iI vi), .ref xq, .int (iI ve), .int (iI vf), .int (iI vu), .int (iI vl), .ref xr, .ref xh, .ref xo, .ref xp, .int (iI vr), .int (iI va), .int (iI vt), .int (iI vm), .int (iI vd), .int (iI 1)]), (xw, aI g 72000 f), (xq, aI g 2000 fq)] inX8 tyX8_ok nmX8 k1026 dX8_readMode_159 rfl rfl (by decide) rfl rfl rfl rfl (nl rfl) rfl rfl ?_
            refine v_aload_n fx 0 dX8_readMode_162 rfl rfl ?_
            refine v_iconst fx dX8_readMode_163 rfl ?_
            refine v_put fx 0 29 [(h0, ob 8 [.ref xa, .ref xb, .ref xc, .ref xd, .ref xe, .ref xf, .ref xg, .int (iI vc), .int (iI vk), .int (iI vw), .ref xm, .ref xv, .int (iI vg), .ref xw, .int (iI vb), .int (iI vi), .ref xq, .int (iI ve), .int (iI vf), .int (iI vu), .int (iI vl), .ref xr, .ref xh, .ref xo, .ref xp, .int (iI vr), .int (iI va), .int (iI vt), .int (iI vm), .int (iI 1), .int (iI 1)]), (xw, aI g 72000 f), (xq, aI g 2000 fq)] inX8 tyX8_ok nmX8 k1025 dX8_readMode_164 rfl rfl (by decide) rfl rfl rfl rfl (nl rfl) rfl rfl ?_
            refine v_iconst fx dX8_readMode_167 rfl ?_
            exact v_iret fx [(h0, ob 8 [.ref xa, .ref xb, .ref xc, .ref xd, .ref xe, .ref xf, .ref xg, .int (iI vc), .int (iI vk), .int (iI vw), .ref xm, .ref xv, .int (iI vg), .ref xw, .int (iI vb), .int (iI vi), .ref xq, .int (iI ve), .int (iI vf), .int (iI vu), .int (iI vl), .ref xr, .ref xh, .ref xo, .ref xp, .int (iI vr), .int (iI va), .int (iI vt), .int (iI vm), .int (iI 1), .int (iI 1)]), (xw, aI g 72000 f), (xq, aI g 2000 fq)] [0, 1, 2] hr dX8_readMode_168 rfl rfl (nl rfl) (nl rfl) ⟨(-1), va, 1, 1, rfl, rfl, (by first | omega | rfl | assumption), (by first | omega | rfl | assumption), (by first | omega | rfl | assumption), (by first | omega | rfl | assumption)⟩
        ·
          refine v_iconst fx dX8_readMode_22 rfl ?_
          refine v_iload_n fx 1 dX8_readMode_23 rfl rfl ?_
          refine v_imul fx (2 * v) dX8_readMode_24 (by rfl) rfl ?_
          refine v_aload_n fx 0 dX8_readMode_25 rfl rfl ?_
          refine v_iload_n fx 2 dX8_readMode_26 rfl rfl ?_
          refine v_callV (As := [.int (iI p)]) (rest := [.int (iI (2 * v))]) fx [0, 1, 2] [] [(h0, ob 8 [.ref xa, .ref xb, .ref xc, .ref xd, .ref xe, .ref xf, .ref xg, .int (iI vc), .int (iI vk), .int (iI vw), .ref xm, .ref xv, .int (iI vg), .ref xw, .int (iI vb), .int (iI vi), .ref xq, .int (iI ve), .int (iI vf), .int (iI vu), .int (iI vl), .ref xr, .ref xh, .ref xo, .ref xp, .int (iI vr), .int (iI va), .int (iI vt), .int (iI vm), .int (iI vd), .int (iI vx)]), (xw, aI g 72000 f), (xq, aI g 2000 fq)] [] 1 0 (c_X8_bitAt l g h0 xa xb xc xd xe xf xg xm xv xw xq xr xh xo xp vc vk vw vg vb vi ve vf vu vl vr va vt vm vd vx f fq p (by first | omega | decide | assumption) (by first | omega | decide | assumption) (by first | omega | decide | assumption) (by first | omega | decide | assumption) (by first | omega | decide | assumption)) dX8_readMode_27 k1166 k1168 k34 k57 k1169 ykX8_bitAt rfl rfl rfl rfl rfl rfl rfl rfl (nl rfl) ⟨nl rfl, nl rfl⟩ ⟨(nl rfl), (nl rfl)⟩ rfl (fun v9 w9 hu => ?_)
          obtain ⟨r_5, rfl, rfl, u_6⟩ := hu
          refine v_is (wn := [(h0, ob 8 [.ref xa, .ref xb, .ref xc, .ref xd, .ref xe, .ref xf, .ref xg, .int (iI vc), .int (iI vk), .int (iI vw), .ref xm, .ref xv, .int (iI vg), .ref xw, .int (iI vb), .int (iI vi), .ref xq, .int (iI ve), .int (iI vf), .int (iI vu), .int (iI vl), .ref xr, .ref xh, .ref xo, .ref xp, .int (iI vr), .int (iI va), .int (iI vt), .int (iI vm), .int (iI vd), .int (iI vx)]), (xw, aI g 72000 f), (xq, aI g 2000 fq)]) (cn := 0) (sn := 0) (sn2 := [.int (iI r_5), .int (iI (2 * v))]) rfl rfl rfl rfl ?_
          refine v_iadd fx ((2 * v) + r_5) dX8_readMode_30 (by rfl) rfl ?_
          refine v_istore_n fx [(1, .int (iI ((2 * v) + r_5))), (0, .ref h0), (2, .int (iI p))] dX8_readMode_31 (by decide) rfl rfl ?_
          refine v_iinc fx 2 (p + 1) [(2, .int (iI (p + 1))), (1, .int (iI ((2 * v) + r_5))), (0, .ref h0)] dX8_readMode_32 rfl (by omega) (by decide) rfl rfl ?_
          have J35 : ∀ (q : Int), (-1 ≤ q ∧ q ≤ 8) → V p9 l e9 (rmD 1 0 0) s9 m9 ag9 bl9 mt9 c9 4 g A9 (MQ bl9 (cQ g (po_c_X8_readMode g h0 xa xb xc xd xe xf xg xm xv xw xq xr xh xo xp vc vk vw vg vb vi ve vf vu vl vr va vt vm vd vx f fq) A9) ag9 s9 0 0 A9) [(h0, ob 8 [.ref xa, .ref xb, .ref xc, .ref xd, .ref xe, .ref xf, .ref xg, .int (iI vc), .int (iI vk), .int (iI vw), .ref xm, .ref xv, .int (iI vg), .ref xw, .int (iI vb), .int (iI vi), .ref xq, .int (iI ve), .int (iI vf), .int (iI vu), .int (iI vl), .ref xr, .ref xh, .ref xo, .ref xp, .int (iI vr), .int (iI va), .int (iI vt), .int (iI vm), .int (iI vd), .int (iI vx)]), (xw, aI g 72000 f), (xq, aI g 2000 fq)] 0 0 [(2, .int (iI (p + 1))), (1, .int (iI ((2 * v) + r_5))), (0, .ref h0)] 130 [.int (iI q)] := by
            intro q hj35_0
            refine v_istore_n fx [(3, .int (iI q)), (2, .int (iI (p + 1))), (1, .int (iI ((2 * v) + r_5))), (0, .ref h0)] dX8_readMode_130 (by decide) rfl rfl ?_
            refine v_iload_n fx 0 dX8_readMode_131 rfl rfl ?_
            refine v_iconst fx dX8_readMode_132 rfl ?_
            refine v_icmp_eq fx 143 dX8_readMode_133 (by decide) rfl (by omega) (by omega) (fun h_7 => ?_) (fun h_7 => ?_)
            ·
              refine v_goto fx 7 dX8_readMode_143 (by decide) ?_
              refine v_lv [3, 2, 1] [(0, .ref h0), (1, .int (iI ((2 * v) + r_5))), (2, .int (iI (p + 1)))] rfl ?_
              exact ihL7 ((2 * v) + r_5) (p + 1) (by omega) (by omega) (by omega)
            ·
              refine v_aload_n fx 3 dX8_readMode_136 rfl rfl ?_
              refine v_iload_n fx 1 dX8_readMode_137 rfl rfl ?_
              refine v_put fx 0 26 [(h0, ob 8 [.ref xa, .ref xb, .ref xc, .ref xd, .ref xe, .ref xf, .ref xg, .int (iI vc), .int (iI vk), .int (iI vw), .ref xm, .ref xv, .int (iI vg), .ref xw, .int (iI vb), .int (iI vi), .ref xq, .int (iI ve), .int (iI vf), .int (iI vu), .int (iI vl), .ref xr, .ref xh, .ref xo, .ref xp, .int (iI vr), .int (iI (p + 1)), .int (iI vt), .int (iI vm), .int (iI vd), .int (iI vx)]), (xw, aI g 72000 f), (xq, aI g 2000 fq)] inX8 tyX8_ok nmX8 k1022 dX8_readMode_138 rfl rfl (by decide) rfl rfl rfl rfl (nl rfl) rfl rfl ?_
              refine v_iload_n fx 0 dX8_readMode_141 rfl rfl ?_
              exact v_iret fx [(h0, ob 8 [.ref xa, .ref xb, .ref xc, .ref xd, .ref xe, .ref xf, .ref xg, .int (iI vc), .int (iI vk), .int (iI vw), .ref xm, .ref xv, .int (iI vg), .ref xw, .int (iI vb), .int (iI vi), .ref xq, .int (iI ve), .int (iI vf), .int (iI vu), .int (iI vl), .ref xr, .ref xh, .ref xo, .ref xp, .int (iI vr), .int (iI (p + 1)), .int (iI vt), .int (iI vm), .int (iI vd), .int (iI vx)]), (xw, aI g 72000 f), (xq, aI g 2000 fq)] [0, 1, 2] hr dX8_readMode_142 rfl rfl (nl rfl) (nl rfl) ⟨q, (p + 1), vd, vx, rfl, rfl, (by first | omega | rfl | assumption), (by first | omega | rfl | assumption), (by first | omega | rfl | assumption), (by first | omega | rfl | assumption)⟩
          refine v_iload_n fx 1 dX8_readMode_35 rfl rfl ?_
          refine v_iconst fx dX8_readMode_36 rfl ?_
          refine v_icmp_ne fx 44 dX8_readMode_37 (by decide) rfl (by omega) (by omega) (fun h_8 => ?_) (fun h_8 => ?_)
          ·
            refine v_iload_n fx 1 dX8_readMode_44 rfl rfl ?_
            refine v_bipush fx dX8_readMode_45 (by decide +kernel) rfl ?_
            refine v_icmp_ne fx 55 dX8_readMode_47 (by decide) rfl (by omega) (by omega) (fun h_9 => ?_) (fun h_9 => ?_)
            ·
              refine v_iload_n fx 1 dX8_readMode_55 rfl rfl ?_
              refine v_bipush fx dX8_readMode_56 (by decide +kernel) rfl ?_
              refine v_icmp_ne fx 65 dX8_readMode_58 (by decide) rfl (by omega) (by omega) (fun h_10 => ?_) (fun h_10 => ?_)
              ·
                refine v_iload_n fx 1 dX8_readMode_65 rfl rfl ?_
                refine v_bipush fx dX8_readMode_66 (by decide +kernel) rfl ?_
                refine v_icmp_ne fx 75 dX8_readMode_68 (by decide) rfl (by omega) (by omega) (fun h_11 => ?_) (fun h_11 => ?_)
                ·
                  refine v_iload_n fx 1 dX8_readMode_75 rfl rfl ?_
                  refine v_bipush fx dX8_readMode_76 (by decide +kernel) rfl ?_
                  refine v_icmp_ne fx 85 dX8_readMode_78 (by decide) rfl (by omega) (by omega) (fun h_12 => ?_) (fun h_12 => ?_)
                  ·
                    refine v_iload_n fx 1 dX8_readMode_85 rfl rfl ?_
                    refine v_bipush fx dX8_readMode_86 (by decide +kernel) rfl ?_
                    refine v_icmp_ne fx 96 dX8_readMode_88 (by decide) rfl (by omega) (by omega) (fun h_13 => ?_) (fun h_13 => ?_)
                    ·
                      refine v_iload_n fx 1 dX8_readMode_96 rfl rfl ?_
                      refine v_bipush fx dX8_readMode_97 (by decide +kernel) rfl ?_
                      refine v_icmp_ne fx 106 dX8_readMode_99 (by decide) rfl (by omega) (by omega) (fun h_14 => ?_) (fun h_14 => ?_)
                      ·
                        refine v_iload_n fx 1 dX8_readMode_106 rfl rfl ?_
                        refine v_sipush fx dX8_readMode_107 (by decide +kernel) rfl ?_
                        refine v_icmp_ne fx 118 dX8_readMode_110 (by decide) rfl (by omega) (by omega) (fun h_15 => ?_) (fun h_15 => ?_)
                        ·
                          refine v_iload_n fx 1 dX8_readMode_118 rfl rfl ?_
                          refine v_sipush fx dX8_readMode_119 (by decide +kernel) rfl ?_
                          refine v_icmp_ne fx 129 dX8_readMode_122 (by decide) rfl (by omega) (by omega) (fun h_16 => ?_) (fun h_16 => ?_)
                          ·
                            refine v_iconst fx dX8_readMode_129 rfl ?_
                            exact J35 (-1) (by omega)
                          ·
                            refine v_iconst fx dX8_readMode_125 rfl ?_
                            refine v_goto fx 130 dX8_readMode_126 (by decide) ?_
                            exact J35 2 (by omega)
                        ·
                          refine v_bipush fx dX8_readMode_113 (by decide +kernel) rfl ?_
                          refine v_goto fx 130 dX8_readMode_115 (by decide) ?_
                          exact J35 8 (by omega)
                      ·
                        refine v_iconst fx dX8_readMode_102 rfl ?_
                        refine v_goto fx 130 dX8_readMode_103 (by decide) ?_
                        exact J35 3 (by omega)
                    ·
                      refine v_bipush fx dX8_readMode_91 (by decide +kernel) rfl ?_
                      refine v_goto fx 130 dX8_readMode_93 (by decide) ?_
                      exact J35 7 (by omega)
                  ·
                    refine v_iconst fx dX8_readMode_81 rfl ?_
                    refine v_goto fx 130 dX8_readMode_82 (by decide) ?_
                    exact J35 0 (by omega)
                ·
                  refine v_iconst fx dX8_readMode_71 rfl ?_
                  refine v_goto fx 130 dX8_readMode_72 (by decide) ?_
                  exact J35 1 (by omega)
              ·
                refine v_iconst fx dX8_readMode_61 rfl ?_
                refine v_goto fx 130 dX8_readMode_62 (by decide) ?_
                exact J35 4 (by omega)
            ·
              refine v_bipush fx dX8_readMode_50 (by decide +kernel) rfl ?_
              refine v_goto fx 130 dX8_readMode_52 (by decide) ?_
              exact J35 6 (by omega)
          ·
            refine v_iconst fx dX8_readMode_40 rfl ?_
            refine v_goto fx 130 dX8_readMode_41 (by decide) ?_
            exact J35 5 (by omega)
  refine v_lv [2, 1, 0] [(0, .ref h0), (1, .int (iI 1)), (2, .int (iI va))] rfl ?_
  exact L7 _ 1 va (by omega) (by omega) (Nat.lt_succ_self _)
theorem dX8_readTwo_0 : decode cX8_readTwo 0 = .ok (.iconst (-1), 1) := by decide +kernel
theorem dX8_readTwo_1 : decode cX8_readTwo 1 = .ok (.istore 4, 2) := by decide +kernel
theorem dX8_readTwo_3 : decode cX8_readTwo 3 = .ok (.iconst 0, 1) := by decide +kernel
theorem dX8_readTwo_4 : decode cX8_readTwo 4 = .ok (.istore 5, 2) := by decide +kernel
theorem dX8_readTwo_6 : decode cX8_readTwo 6 = .ok (.aload_n 0, 1) := by decide +kernel
theorem dX8_readTwo_7 : decode cX8_readTwo 7 = .ok (.getfield 142, 3) := by decide +kernel
theorem dX8_readTwo_10 : decode cX8_readTwo 10 = .ok (.ifCond .ne 322, 3) := by decide +kernel
theorem dX8_readTwo_13 : decode cX8_readTwo 13 = .ok (.iload 4, 2) := by decide +kernel
theorem dX8_readTwo_15 : decode cX8_readTwo 15 = .ok (.aload_n 0, 1) := by decide +kernel
theorem dX8_readTwo_16 : decode cX8_readTwo 16 = .ok (.getfield 63, 3) := by decide +kernel
theorem dX8_readTwo_19 : decode cX8_readTwo 19 = .ok (.if_icmp .ge 313, 3) := by decide +kernel
theorem dX8_readTwo_22 : decode cX8_readTwo 22 = .ok (.aload_n 0, 1) := by decide +kernel
theorem dX8_readTwo_23 : decode cX8_readTwo 23 = .ok (.invokevirtual 160, 3) := by decide +kernel
theorem dX8_readTwo_26 : decode cX8_readTwo 26 = .ok (.istore 6, 2) := by decide +kernel
theorem dX8_readTwo_28 : decode cX8_readTwo 28 = .ok (.aload_n 0, 1) := by decide +kernel
theorem dX8_readTwo_29 : decode cX8_readTwo 29 = .ok (.getfield 142, 3) := by decide +kernel
theorem dX8_readTwo_32 : decode cX8_readTwo 32 = .ok (.ifCond .eq 4, 3) := by decide +kernel
theorem dX8_readTwo_35 : decode cX8_readTwo 35 = .ok (.return_, 1) := by decide +kernel
theorem dX8_readTwo_36 : decode cX8_readTwo 36 = .ok (.aload_n 0, 1) := by decide +kernel
theorem dX8_readTwo_37 : decode cX8_readTwo 37 = .ok (.getfield 56, 3) := by decide +kernel
theorem dX8_readTwo_40 : decode cX8_readTwo 40 = .ok (.iload_n 1, 1) := by decide +kernel
theorem dX8_readTwo_41 : decode cX8_readTwo 41 = .ok (.iaload, 1) := by decide +kernel
theorem dX8_readTwo_42 : decode cX8_readTwo 42 = .ok (.sipush 3004, 3) := by decide +kernel
theorem dX8_readTwo_45 : decode cX8_readTwo 45 = .ok (.if_icmp .ge 32, 3) := by decide +kernel
theorem dX8_readTwo_48 : decode cX8_readTwo 48 = .ok (.aload_n 0, 1) := by decide +kernel
theorem dX8_readTwo_49 : decode cX8_readTwo 49 = .ok (.getfield 53, 3) := by decide +kernel
theorem dX8_readTwo_52 : decode cX8_readTwo 52 = .ok (.sipush 3004, 3) := by decide +kernel
theorem dX8_readTwo_55 : decode cX8_readTwo 55 = .ok (.iload_n 1, 1) := by decide +kernel
theorem dX8_readTwo_56 : decode cX8_readTwo 56 = .ok (.imul, 1) := by decide +kernel
theorem dX8_readTwo_57 : decode cX8_readTwo 57 = .ok (.aload_n 0, 1) := by decide +kernel
theorem dX8_readTwo_58 : decode cX8_readTwo 58 = .ok (.getfield 56, 3) := by decide +kernel
theorem dX8_readTwo_61 : decode cX8_readTwo 61 = .ok (.iload_n 1, 1) := by decide +kernel
theorem dX8_readTwo_62 : decode cX8_readTwo 62 = .ok (.iaload, 1) := by decide +kernel
theorem dX8_readTwo_63 : decode cX8_readTwo 63 = .ok (.iadd, 1) := by decide +kernel
theorem dX8_readTwo_64 : decode cX8_readTwo 64 = .ok (.iload 6, 2) := by decide +kernel
theorem dX8_readTwo_66 : decode cX8_readTwo 66 = .ok (.iastore, 1) := by decide +kernel
theorem dX8_readTwo_67 : decode cX8_readTwo 67 = .ok (.aload_n 0, 1) := by decide +kernel
theorem dX8_readTwo_68 : decode cX8_readTwo 68 = .ok (.getfield 56, 3) := by decide +kernel
theorem dX8_readTwo_71 : decode cX8_readTwo 71 = .ok (.iload_n 1, 1) := by decide +kernel
theorem dX8_readTwo_72 : decode cX8_readTwo 72 = .ok (.dup2, 1) := by decide +kernel
theorem dX8_readTwo_73 : decode cX8_readTwo 73 = .ok (.iaload, 1) := by decide +kernel
theorem dX8_readTwo_74 : decode cX8_readTwo 74 = .ok (.iconst 1, 1) := by decide +kernel
theorem dX8_readTwo_75 : decode cX8_readTwo 75 = .ok (.iadd, 1) := by decide +kernel
theorem dX8_readTwo_76 : decode cX8_readTwo 76 = .ok (.iastore, 1) := by decide +kernel
theorem dX8_readTwo_77 : decode cX8_readTwo 77 = .ok (.aload_n 0, 1) := by decide +kernel
theorem dX8_readTwo_78 : decode cX8_readTwo 78 = .ok (.aload_n 0, 1) := by decide +kernel
theorem dX8_readTwo_79 : decode cX8_readTwo 79 = .ok (.getfield 46, 3) := by decide +kernel
theorem dX8_readTwo_82 : decode cX8_readTwo 82 = .ok (.iload_n 3, 1) := by decide +kernel
theorem dX8_readTwo_83 : decode cX8_readTwo 83 = .ok (.iload 4, 2) := by decide +kernel
theorem dX8_readTwo_85 : decode cX8_readTwo 85 = .ok (.iload 5, 2) := by decide +kernel
theorem dX8_readTwo_87 : decode cX8_readTwo 87 = .ok (.invokevirtual 98, 3) := by decide +kernel
theorem dX8_readTwo_90 : decode cX8_readTwo 90 = .ok (.istore 7, 2) := by decide +kernel
theorem dX8_readTwo_92 : decode cX8_readTwo 92 = .ok (.iload 6, 2) := by decide +kernel
theorem dX8_readTwo_94 : decode cX8_readTwo 94 = .ok (.ifCond .ne 34, 3) := by decide +kernel
theorem dX8_readTwo_97 : decode cX8_readTwo 97 = .ok (.aload_n 0, 1) := by decide +kernel
theorem dX8_readTwo_98 : decode cX8_readTwo 98 = .ok (.aload_n 0, 1) := by decide +kernel
theorem dX8_readTwo_99 : decode cX8_readTwo 99 = .ok (.getfield 46, 3) := by decide +kernel
theorem dX8_readTwo_102 : decode cX8_readTwo 102 = .ok (.iload_n 3, 1) := by decide +kernel
theorem dX8_readTwo_103 : decode cX8_readTwo 103 = .ok (.iload 7, 2) := by decide +kernel
theorem dX8_readTwo_105 : decode cX8_readTwo 105 = .ok (.invokevirtual 102, 3) := by decide +kernel
theorem dX8_readTwo_108 : decode cX8_readTwo 108 = .ok (.istore 8, 2) := by decide +kernel
theorem dX8_readTwo_110 : decode cX8_readTwo 110 = .ok (.aload_n 0, 1) := by decide +kernel
theorem dX8_readTwo_111 : decode cX8_readTwo 111 = .ok (.iload_n 2, 1) := by decide +kernel
theorem dX8_readTwo_112 : decode cX8_readTwo 112 = .ok (.iload 4, 2) := by decide +kernel
theorem dX8_readTwo_114 : decode cX8_readTwo 114 = .ok (.iload 8, 2) := by decide +kernel
theorem dX8_readTwo_116 : decode cX8_readTwo 116 = .ok (.iload 5, 2) := by decide +kernel
theorem dX8_readTwo_118 : decode cX8_readTwo 118 = .ok (.invokevirtual 153, 3) := by decide +kernel
theorem dX8_readTwo_121 : decode cX8_readTwo 121 = .ok (.iload 8, 2) := by decide +kernel
theorem dX8_readTwo_123 : decode cX8_readTwo 123 = .ok (.istore 4, 2) := by decide +kernel
theorem dX8_readTwo_125 : decode cX8_readTwo 125 = .ok (.goto 204, 3) := by decide +kernel
theorem dX8_readTwo_128 : decode cX8_readTwo 128 = .ok (.iload 6, 2) := by decide +kernel
theorem dX8_readTwo_130 : decode cX8_readTwo 130 = .ok (.iconst 1, 1) := by decide +kernel
theorem dX8_readTwo_131 : decode cX8_readTwo 131 = .ok (.if_icmp .ne 130, 3) := by decide +kernel
theorem dX8_readTwo_134 : decode cX8_readTwo 134 = .ok (.iload 4, 2) := by decide +kernel
theorem dX8_readTwo_136 : decode cX8_readTwo 136 = .ok (.ifCond .ge 7, 3) := by decide +kernel
theorem dX8_readTwo_139 : decode cX8_readTwo 139 = .ok (.iconst 0, 1) := by decide +kernel
theorem dX8_readTwo_140 : decode cX8_readTwo 140 = .ok (.goto 5, 3) := by decide +kernel
theorem dX8_readTwo_143 : decode cX8_readTwo 143 = .ok (.iload 4, 2) := by decide +kernel
theorem dX8_readTwo_145 : decode cX8_readTwo 145 = .ok (.istore 8, 2) := by decide +kernel
theorem dX8_readTwo_147 : decode cX8_readTwo 147 = .ok (.aload_n 0, 1) := by decide +kernel
theorem dX8_readTwo_148 : decode cX8_readTwo 148 = .ok (.iload 5, 2) := by decide +kernel
theorem dX8_readTwo_150 : decode cX8_readTwo 150 = .ok (.aload_n 0, 1) := by decide +kernel
theorem dX8_readTwo_151 : decode cX8_readTwo 151 = .ok (.getfield 63, 3) := by decide +kernel
theorem dX8_readTwo_154 : decode cX8_readTwo 154 = .ok (.iload 8, 2) := by decide +kernel
theorem dX8_readTwo_156 : decode cX8_readTwo 156 = .ok (.isub, 1) := by decide +kernel
theorem dX8_readTwo_157 : decode cX8_readTwo 157 = .ok (.invokevirtual 149, 3) := by decide +kernel
theorem dX8_readTwo_160 : decode cX8_readTwo 160 = .ok (.istore 9, 2) := by decide +kernel
theorem dX8_readTwo_162 : decode cX8_readTwo 162 = .ok (.aload_n 0, 1) := by decide +kernel
theorem dX8_readTwo_163 : decode cX8_readTwo 163 = .ok (.getfield 142, 3) := by decide +kernel
theorem dX8_readTwo_166 : decode cX8_readTwo 166 = .ok (.ifCond .eq 7, 3) := by decide +kernel
theorem dX8_readTwo_169 : decode cX8_readTwo 169 = .ok (.iconst 0, 1) := by decide +kernel
theorem dX8_readTwo_170 : decode cX8_readTwo 170 = .ok (.goto 27, 3) := by decide +kernel
theorem dX8_readTwo_173 : decode cX8_readTwo 173 = .ok (.aload_n 0, 1) := by decide +kernel
theorem dX8_readTwo_174 : decode cX8_readTwo 174 = .ok (.iload 5, 2) := by decide +kernel
theorem dX8_readTwo_176 : decode cX8_readTwo 176 = .ok (.ifCond .ne 7, 3) := by decide +kernel
theorem dX8_readTwo_179 : decode cX8_readTwo 179 = .ok (.iconst 1, 1) := by decide +kernel
theorem dX8_readTwo_180 : decode cX8_readTwo 180 = .ok (.goto 4, 3) := by decide +kernel
theorem dX8_readTwo_183 : decode cX8_readTwo 183 = .ok (.iconst 0, 1) := by decide +kernel
theorem dX8_readTwo_184 : decode cX8_readTwo 184 = .ok (.aload_n 0, 1) := by decide +kernel
theorem dX8_readTwo_185 : decode cX8_readTwo 185 = .ok (.getfield 63, 3) := by decide +kernel
theorem dX8_readTwo_188 : decode cX8_readTwo 188 = .ok (.iload 8, 2) := by decide +kernel
theorem dX8_readTwo_190 : decode cX8_readTwo 190 = .ok (.isub, 1) := by decide +kernel
theorem dX8_readTwo_191 : decode cX8_readTwo 191 = .ok (.iload 9, 2) := by decide +kernel
theorem dX8_readTwo_193 : decode cX8_readTwo 193 = .ok (.isub, 1) := by decide +kernel
theorem dX8_readTwo_194 : decode cX8_readTwo 194 = .ok (.invokevirtual 149, 3) := by decide +kernel
theorem dX8_readTwo_197 : decode cX8_readTwo 197 = .ok (.istore 10, 2) := by decide +kernel
theorem dX8_readTwo_199 : decode cX8_readTwo 199 = .ok (.aload_n 0, 1) := by decide +kernel
theorem dX8_readTwo_200 : decode cX8_readTwo 200 = .ok (.getfield 142, 3) := by decide +kernel
theorem dX8_readTwo_203 : decode cX8_readTwo 203 = .ok (.ifCond .ne 55, 3) := by decide +kernel
theorem dX8_readTwo_206 : decode cX8_readTwo 206 = .ok (.aload_n 0, 1) := by decide +kernel
theorem dX8_readTwo_207 : decode cX8_readTwo 207 = .ok (.iload_n 2, 1) := by decide +kernel
theorem dX8_readTwo_208 : decode cX8_readTwo 208 = .ok (.iload 8, 2) := by decide +kernel
theorem dX8_readTwo_210 : decode cX8_readTwo 210 = .ok (.iload 8, 2) := by decide +kernel
theorem dX8_readTwo_212 : decode cX8_readTwo 212 = .ok (.iload 9, 2) := by decide +kernel
theorem dX8_readTwo_214 : decode cX8_readTwo 214 = .ok (.iadd, 1) := by decide +kernel
theorem dX8_readTwo_215 : decode cX8_readTwo 215 = .ok (.iload 5, 2) := by decide +kernel
theorem dX8_readTwo_217 : decode cX8_readTwo 217 = .ok (.invokevirtual 153, 3) := by decide +kernel
theorem dX8_readTwo_220 : decode cX8_readTwo 220 = .ok (.aload_n 0, 1) := by decide +kernel
theorem dX8_readTwo_221 : decode cX8_readTwo 221 = .ok (.iload_n 2, 1) := by decide +kernel
theorem dX8_readTwo_222 : decode cX8_readTwo 222 = .ok (.iload 8, 2) := by decide +kernel
theorem dX8_readTwo_224 : decode cX8_readTwo 224 = .ok (.iload 9, 2) := by decide +kernel
theorem dX8_readTwo_226 : decode cX8_readTwo 226 = .ok (.iadd, 1) := by decide +kernel
theorem dX8_readTwo_227 : decode cX8_readTwo 227 = .ok (.iload 8, 2) := by decide +kernel
theorem dX8_readTwo_229 : decode cX8_readTwo 229 = .ok (.iload 9, 2) := by decide +kernel
theorem dX8_readTwo_231 : decode cX8_readTwo 231 = .ok (.iadd, 1) := by decide +kernel
theorem dX8_readTwo_232 : decode cX8_readTwo 232 = .ok (.iload 10, 2) := by decide +kernel
theorem dX8_readTwo_234 : decode cX8_readTwo 234 = .ok (.iadd, 1) := by decide +kernel
theorem dX8_readTwo_235 : decode cX8_readTwo 235 = .ok (.iload 5, 2) := by decide +kernel
theorem dX8_readTwo_237 : decode cX8_readTwo 237 = .ok (.ifCond .ne 7, 3) := by decide +kernel
theorem dX8_readTwo_240 : decode cX8_readTwo 240 = .ok (.iconst 1, 1) := by decide +kernel
theorem dX8_readTwo_241 : decode cX8_readTwo 241 = .ok (.goto 4, 3) := by decide +kernel
theorem dX8_readTwo_244 : decode cX8_readTwo 244 = .ok (.iconst 0, 1) := by decide +kernel
theorem dX8_readTwo_245 : decode cX8_readTwo 245 = .ok (.invokevirtual 153, 3) := by decide +kernel
theorem dX8_readTwo_248 : decode cX8_readTwo 248 = .ok (.iload 8, 2) := by decide +kernel
theorem dX8_readTwo_250 : decode cX8_readTwo 250 = .ok (.iload 9, 2) := by decide +kernel
theorem dX8_readTwo_252 : decode cX8_readTwo 252 = .ok (.iadd, 1) := by decide +kernel
theorem dX8_readTwo_253 : decode cX8_readTwo 253 = .ok (.iload 10, 2) := by decide +kernel
theorem dX8_readTwo_255 : decode cX8_readTwo 255 = .ok (.iadd, 1) := by decide +kernel
theorem dX8_readTwo_256 : decode cX8_readTwo 256 = .ok (.istore 4, 2) := by decide +kernel
theorem dX8_readTwo_258 : decode cX8_readTwo 258 = .ok (.goto 71, 3) := by decide +kernel
theorem dX8_readTwo_261 : decode cX8_readTwo 261 = .ok (.iload 7, 2) := by decide +kernel
theorem dX8_readTwo_263 : decode cX8_readTwo 263 = .ok (.iload 6, 2) := by decide +kernel
theorem dX8_readTwo_265 : decode cX8_readTwo 265 = .ok (.iadd, 1) := by decide +kernel
theorem dX8_readTwo_266 : decode cX8_readTwo 266 = .ok (.iconst 5, 1) := by decide +kernel
theorem dX8_readTwo_267 : decode cX8_readTwo 267 = .ok (.isub, 1) := by decide +kernel
theorem dX8_readTwo_268 : decode cX8_readTwo 268 = .ok (.istore 8, 2) := by decide +kernel
theorem dX8_readTwo_270 : decode cX8_readTwo 270 = .ok (.aload_n 0, 1) := by decide +kernel
theorem dX8_readTwo_271 : decode cX8_readTwo 271 = .ok (.iload 8, 2) := by decide +kernel
theorem dX8_readTwo_273 : decode cX8_readTwo 273 = .ok (.aload_n 0, 1) := by decide +kernel
theorem dX8_readTwo_274 : decode cX8_readTwo 274 = .ok (.getfield 63, 3) := by decide +kernel
theorem dX8_readTwo_277 : decode cX8_readTwo 277 = .ok (.if_icmp .gt 10, 3) := by decide +kernel
theorem dX8_readTwo_280 : decode cX8_readTwo 280 = .ok (.iload 8, 2) := by decide +kernel
theorem dX8_readTwo_282 : decode cX8_readTwo 282 = .ok (.iload 4, 2) := by decide +kernel
theorem dX8_readTwo_284 : decode cX8_readTwo 284 = .ok (.if_icmp .gt 7, 3) := by decide +kernel
theorem dX8_readTwo_287 : decode cX8_readTwo 287 = .ok (.iconst 1, 1) := by decide +kernel
theorem dX8_readTwo_288 : decode cX8_readTwo 288 = .ok (.goto 4, 3) := by decide +kernel
theorem dX8_readTwo_291 : decode cX8_readTwo 291 = .ok (.iconst 0, 1) := by decide +kernel
theorem dX8_readTwo_292 : decode cX8_readTwo 292 = .ok (.putfield 142, 3) := by decide +kernel
theorem dX8_readTwo_295 : decode cX8_readTwo 295 = .ok (.aload_n 0, 1) := by decide +kernel
theorem dX8_readTwo_296 : decode cX8_readTwo 296 = .ok (.getfield 142, 3) := by decide +kernel
theorem dX8_readTwo_299 : decode cX8_readTwo 299 = .ok (.ifCond .ne 30, 3) := by decide +kernel
theorem dX8_readTwo_302 : decode cX8_readTwo 302 = .ok (.aload_n 0, 1) := by decide +kernel
theorem dX8_readTwo_303 : decode cX8_readTwo 303 = .ok (.iload_n 2, 1) := by decide +kernel
theorem dX8_readTwo_304 : decode cX8_readTwo 304 = .ok (.iload 4, 2) := by decide +kernel
theorem dX8_readTwo_306 : decode cX8_readTwo 306 = .ok (.iload 8, 2) := by decide +kernel
theorem dX8_readTwo_308 : decode cX8_readTwo 308 = .ok (.iload 5, 2) := by decide +kernel
theorem dX8_readTwo_310 : decode cX8_readTwo 310 = .ok (.invokevirtual 153, 3) := by decide +kernel
theorem dX8_readTwo_313 : decode cX8_readTwo 313 = .ok (.iload 8, 2) := by decide +kernel
theorem dX8_readTwo_315 : decode cX8_readTwo 315 = .ok (.istore 4, 2) := by decide +kernel
theorem dX8_readTwo_317 : decode cX8_readTwo 317 = .ok (.iload 5, 2) := by decide +kernel
theorem dX8_readTwo_319 : decode cX8_readTwo 319 = .ok (.ifCond .ne 7, 3) := by decide +kernel
theorem dX8_readTwo_322 : decode cX8_readTwo 322 = .ok (.iconst 1, 1) := by decide +kernel
theorem dX8_readTwo_323 : decode cX8_readTwo 323 = .ok (.goto 4, 3) := by decide +kernel
theorem dX8_readTwo_326 : decode cX8_readTwo 326 = .ok (.iconst 0, 1) := by decide +kernel
theorem dX8_readTwo_327 : decode cX8_readTwo 327 = .ok (.istore 5, 2) := by decide +kernel
theorem dX8_readTwo_329 : decode cX8_readTwo 329 = .ok (.goto (-323), 3) := by decide +kernel
theorem dX8_readTwo_332 : decode cX8_readTwo 332 = .ok (.return_, 1) := by decide +kernel
abbrev po_c_X8_readTwo (g : GG) (h0 : Nat) (xa : Nat) (xb : Nat) (xc : Nat) (xd : Nat) (xe : Nat) (xf : Nat) (xg : Nat) (xm : Nat) (xv : Nat) (xw : Nat) (xq : Nat) (xr : Nat) (xh : Nat) (xo : Nat) (xp : Nat) (vc : Int) (vk : Int) (vw : Int) (vg : Int) (vb : Int) (vi : Int) (ve : Int) (vf : Int) (vu : Int) (vl : Int) (vr : Int) (va : Int) (vt : Int) (vm : Int) (vd : Int) (vx : Int) (f : Nat → Int32) (fq : Nat → Int32) (fw : Nat → Int32) (fb : Nat → Int32) (fr : Nat → Int32) (fm : Nat → Int32) (fc : Nat → Int32) (y : Int) (ba : Int) (ab : Int) : Option Value → va_W → Prop := fun v8 w8 => ∃ a2 : Int, ∃ d2 : Int, ∃ x2 : Int, ∃ g2 : Nat → Int32, ∃ g3 : Nat → Int32, ∃ g4 : Nat → Int32, v8 = none ∧ w8 = [(h0, ob 8 [.ref xa, .ref xb, .ref xc, .ref xd, .ref xe, .ref xf, .ref xg, .int (iI vc), .int (iI vk), .int (iI vw), .ref xm, .ref xv, .int (iI vg), .ref xw, .int (iI vb), .int (iI vi), .ref xq, .int (iI ve), .int (iI vf), .int (iI vu), .int (iI vl), .ref xr, .ref xh, .ref xo, .ref xp, .int (iI vr), .int (iI a2), .int (iI vt), .int (iI vm), .int (iI d2), .int (iI x2)]), (xw, aI g 72000 f), (xq, aI g 2000 fq), (xf, aI g 16384 fw), (xg, aI g 16384 fb), (xr, aZ g 75000 g2), (xo, aI g 75100 g3), (xp, aI g 25 g4)] ∧ (0 ≤ d2 ∧ d2 ≤ 1) ∧ (va ≤ a2 ∧ a2 ≤ vt) ∧ (0 ≤ x2 ∧ x2 ≤ 1) ∧ (mC g4)
set_option maxHeartbeats 4000000 in
set_option maxRecDepth 100000 in
theorem c_X8_readTwo (l : Launch) (g : GG) (h0 : Nat) (xa : Nat) (xb : Nat) (xc : Nat) (xd : Nat) (xe : Nat) (xf : Nat) (xg : Nat) (xm : Nat) (xv : Nat) (xw : Nat) (xq : Nat) (xr : Nat) (xh : Nat) (xo : Nat) (xp : Nat) (vc : Int) (vk : Int) (vw : Int) (vg : Int) (vb : Int) (vi : Int) (ve : Int) (vf : Int) (vu : Int) (vl : Int) (vr : Int) (va : Int) (vt : Int) (vm : Int) (vd : Int) (vx : Int) (f : Nat → Int32) (fq : Nat → Int32) (fw : Nat → Int32) (fb : Nat → Int32) (fr : Nat → Int32) (fm : Nat → Int32) (fc : Nat → Int32) (y : Int) (ba : Int) (ab : Int) (hp0 : sOk vm vt) (hp1 : 0 ≤ vt ∧ vt ≤ 576000) (hp2 : 0 ≤ vl ∧ vl ≤ 1) (hp3 : 0 ≤ vm ∧ vm ≤ 1) (hp4 : rR fw) (hp5 : rR fb) (hp6 : 0 ≤ va ∧ va ≤ vt) (hp7 : vd = 0) (hp8 : 0 ≤ ba ∧ ba + 3000 ≤ 75000) (hp9 : -1 ≤ ab ∧ ab + 3000 ≤ 75000) (hp10 : 1 ≤ vw ∧ vw ≤ 3000) (hp11 : 0 ≤ y ∧ y ≤ 24) (hp12 : 0 ≤ vx ∧ vx ≤ 1) (hp13 : mC fc) : Ct l g yX8_readTwo (wM yX8_readTwo cX8_readTwo 11 none) (rmD 3 0 0) [.ref h0, .int (iI y), .int (iI ba), .int (iI ab)] [(h0, ob 8 [.ref xa, .ref xb, .ref xc, .ref xd, .ref xe, .ref xf, .ref xg, .int (iI vc), .int (iI vk), .int (iI vw), .ref xm, .ref xv, .int (iI vg), .ref xw, .int (iI vb), .int (iI vi), .ref xq, .int (iI ve), .int (iI vf), .int (iI vu), .int (iI vl), .ref xr, .ref xh, .ref xo, .ref xp, .int (iI vr), .int (iI va), .int (iI vt), .int (iI vm), .int (iI vd), .int (iI vx)]), (xw, aI g 72000 f), (xq, aI g 2000 fq), (xf, aI g 16384 fw), (xg, aI g 16384 fb), (xr, aZ g 75000 fr), (xo, aI g 75100 fm), (xp, aI g 25 fc)] (po_c_X8_readTwo g h0 xa xb xc xd xe xf xg xm xv xw xq xr xh xo xp vc vk vw vg vb vi ve vf vu vl vr va vt vm vd vx f fq fw fb fr fm fc y ba ab) := by
  refine Ct_of (by decide +kernel) (Nat.le_of_ble_eq_true rfl) ?_
  intro p9 e9 s9 m9 ag9 bl9 mt9 c9 A9 fx hr hnm
  refine v_iconst fx dX8_readTwo_0 rfl ?_
  refine v_istore fx [(4, .int (iI (-1))), (0, .ref h0), (1, .int (iI y)), (2, .int (iI ba)), (3, .int (iI ab))] dX8_readTwo_1 (by decide) rfl rfl ?_
  refine v_iconst fx dX8_readTwo_3 rfl ?_
  refine v_istore fx [(5, .int (iI 0)), (4, .int (iI (-1))), (0, .ref h0), (1, .int (iI y)), (2, .int (iI ba)), (3, .int (iI ab))] dX8_readTwo_4 (by decide) rfl rfl ?_
  have L6 : ∀ (N : Nat) (a0 : Int) (bk : Int) (pa : Int) (pd : Int) (px : Int) (f1 : Nat → Int32) (f2 : Nat → Int32) (f3 : Nat → Int32), (-1 ≤ a0 ∧ a0 ≤ vw) → (0 ≤ bk ∧ bk ≤ 1) → (0 ≤ pd ∧ pd ≤ 1) → (va ≤ pa ∧ pa ≤ vt) → (0 ≤ px ∧ px ≤ 1) → (mC f3) → ((vt - pa + 1 - pd).toNat) < N → V p9 l e9 (rmD 3 0 0) s9 m9 ag9 bl9 mt9 c9 11 g A9 (MQ bl9 (cQ g (po_c_X8_readTwo g h0 xa xb xc xd xe xf xg xm xv xw xq xr xh xo xp vc vk vw vg vb vi ve vf vu vl vr va vt vm vd vx f fq fw fb fr fm fc y ba ab) A9) ag9 s9 0 0 A9) [(h0, ob 8 [.ref xa, .ref xb, .ref xc, .ref xd, .ref xe, .ref xf, .ref xg, .int (iI vc), .int (iI vk), .int (iI vw), .ref xm, .ref xv, .int (iI vg), .ref xw, .int (iI vb), .int (iI vi), .ref xq, .int (iI ve), .int (iI vf), .int (iI vu), .int (iI vl), .ref xr, .ref xh, .ref xo, .ref xp, .int (iI vr), .int (iI pa), .int (iI vt), .int (iI vm), .int (iI pd), .int (iI px)]), (xw, aI g 72000 f), (xq, aI g 2000 fq), (xf, aI g 16384 fw), (xg, aI g 16384 fb), (xr, aZ g 75000 f1), (xo, aI g 75100 f2), (xp, aI g 25 f3)] 0 0 [(0, .ref h0), (1, .int (iI y)), (2, .int (iI ba)), (3, .int (iI ab)), (4, .int (iI a0)), (5, .int (iI bk))] 6 [] := by
    intro N
    induction N with
    | zero => intro a0 bk pa pd px f1 f2 f3 hi6_0 hi6_1 hi6_2 hi6_3 hi6_4 hi6_5 hN; exact absurd hN (Nat.not_lt_zero _)
    | succ N ihL6 =>
      intro a0 bk pa pd px f1 f2 f3 hi6_0 hi6_1 hi6_2 hi6_3 hi6_4 hi6_5 hN6
      refine v_aload_n fx 0 dX8_readTwo_6 rfl rfl ?_
      refine v_get fx 0 29 inX8 k1025 dX8_readTwo_7 rfl rfl (by decide) rfl rfl rfl ?_
      refine v_if_ne fx 332 dX8_readTwo_10 (by decide) rfl (by omega) (fun h_1 => ?_) (fun h_1 => ?_)
      ·
        exact v_vret fx [(h0, ob 8 [.ref xa, .ref xb, .ref xc, .ref xd, .ref xe, .ref xf, .ref xg, .int (iI vc), .int (iI vk), .int (iI vw), .ref xm, .ref xv, .int (iI vg), .ref xw, .int (iI vb), .int (iI vi), .ref xq, .int (iI ve), .int (iI vf), .int (iI vu), .int (iI vl), .ref xr, .ref xh, .ref xo, .ref xp, .int (iI vr), .int (iI pa), .int (iI vt), .int (iI vm), .int (iI pd), .int (iI px)]), (xw, aI g 72000 f), (xq, aI g 2000 fq), (xf, aI g 16384 fw), (xg, aI g 16384 fb), (xr, aZ g 75000 f1), (xo, aI g 75100 f2), (xp, aI g 25 f3)] [0, 1, 2, 3, 4, 5, 6, 7] hr dX8_readTwo_332 rfl rfl (nl rfl) (nl rfl) ⟨pa, pd, px, f1, f2, f3, rfl, rfl, (by first | omega | rfl | assumption), (by first | omega | rfl | assumption), (by first | omega | rfl | assumption), (by exact hi6_5)⟩
      ·
        refine v_iload fx 4 dX8_readTwo_13 rfl rfl ?_
        refine v_aload_n fx 0 dX8_readTwo_15 rfl rfl ?_
        refine v_get fx 0 9 inX8 k1005 dX8_readTwo_16 rfl rfl (by decide) rfl rfl rfl ?_
        refine v_icmp_ge fx 332 dX8_readTwo_19 (by decide) rfl (by omega) (by omega) (fun h_2 => ?_) (fun h_2 => ?_)
        ·
          exact v_vret fx [(h0, ob 8 [.ref xa, .ref xb, .ref xc, .ref xd, .ref xe, .ref xf, .ref xg, .int (iI vc), .int (iI vk), .int (iI vw), .ref xm, .ref xv, .int (iI vg), .ref xw, .int (iI vb), .int (iI vi), .ref xq, .int (iI ve), .int (iI vf), .int (iI vu), .int (iI vl), .ref xr, .ref xh, .ref xo, .ref xp, .int (iI vr), .int (iI pa), .int (iI vt), .int (iI vm), .int (iI pd), .int (iI px)]), (xw, aI g 72000 f), (xq, aI g 2000 fq), (xf, aI g 16384 fw), (xg, aI g 16384 fb), (xr, aZ g 75000 f1), (xo, aI g 75100 f2), (xp, aI g 25 f3)] [0, 1, 2, 3, 4, 5, 6, 7] hr dX8_readTwo_332 rfl rfl (nl rfl) (nl rfl) ⟨pa, pd, px, f1, f2, f3, rfl, rfl, (by first | omega | rfl | assumption), (by first | omega | rfl | assumption), (by first | omega | rfl | assumption), (by exact hi6_5)⟩
        ·
          refine v_aload_n fx 0 dX8_readTwo_22 rfl rfl ?_
          refine v_callV (As := []) (rest := []) fx [0, 1, 2] [3, 4, 5, 6, 7] [(h0, ob 8 [.ref xa, .ref xb, .ref xc, .ref xd, .ref xe, .ref xf, .ref xg, .int (iI vc), .int (iI vk), .int (iI vw), .ref xm, .ref xv, .int (iI vg), .ref xw, .int (iI vb), .int (iI vi), .ref xq, .int (iI ve), .int (iI vf), .int (iI vu), .int (iI vl), .ref xr, .ref xh, .ref xo, .ref xp, .int (iI vr), .int (iI pa), .int (iI vt), .int (iI vm), .int (iI pd), .int (iI px)]), (xw, aI g 72000 f), (xq, aI g 2000 fq)] [(xf, aI g 16384 fw), (xg, aI g 16384 fb), (xr, aZ g 75000 f1), (xo, aI g 75100 f2), (xp, aI g 25 f3)] 0 0 (c_X8_readMode l g h0 xa xb xc xd xe xf xg xm xv xw xq xr xh xo xp vc vk vw vg vb vi ve vf vu vl vr pa vt vm pd px f fq (by first | omega | decide | assumption) (by first | omega | decide | assumption) (by first | omega | decide | assumption) (by first | omega | decide | assumption) (by first | omega | decide | assumption) (by first | omega | decide | assumption) (by first | omega | decide | assumption)) dX8_readTwo_23 k1194 k1196 k41 k57 k1197 ykX8_readMode rfl rfl rfl rfl rfl rfl rfl rfl (nl rfl) ⟨nl rfl, nl rfl⟩ ⟨(nl rfl), (nl rfl)⟩ rfl (fun v9 w9 hu => ?_)
          obtain ⟨q, a2_3, d2_4, x2_5, rfl, rfl, u_6, u_7, u_8, u_9⟩ := hu
          refine v_is (wn := [(xf, aI g 16384 fw), (xg, aI g 16384 fb), (xr, aZ g 75000 f1), (xo, aI g 75100 f2), (xp, aI g 25 f3), (h0, ob 8 [.ref xa, .ref xb, .ref xc, .ref xd, .ref xe, .ref xf, .ref xg, .int (iI vc), .int (iI vk), .int (iI vw), .ref xm, .ref xv, .int (iI vg), .ref xw, .int (iI vb), .int (iI vi), .ref xq, .int (iI ve), .int (iI vf), .int (iI vu), .int (iI vl), .ref xr, .ref xh, .ref xo, .ref xp, .int (iI vr), .int (iI a2_3), .int (iI vt), .int (iI vm), .int (iI d2_4), .int (iI x2_5)]), (xw, aI g 72000 f), (xq, aI g 2000 fq)]) (cn := 0) (sn := 0) (sn2 := [.int (iI q)]) rfl rfl rfl rfl ?_
          refine v_istore fx [(6, .int (iI q)), (0, .ref h0), (1, .int (iI y)), (2, .int (iI ba)), (3, .int (iI ab)), (4, .int (iI a0)), (5, .int (iI bk))] dX8_readTwo_26 (by decide) rfl rfl ?_
          refine v_aload_n fx 1 dX8_readTwo_28 rfl rfl ?_
          refine v_get fx 5 29 inX8 k1025 dX8_readTwo_29 rfl rfl (by decide) rfl rfl rfl ?_
          refine v_if_eq fx 36 dX8_readTwo_32 (by decide) rfl (by omega) (fun h_10 => ?_) (fun h_10 => ?_)
          ·
            refine v_aload_n fx 1 dX8_readTwo_36 rfl rfl ?_
            refine v_get fx 5 24 inX8 k1020 dX8_readTwo_37 rfl rfl (by decide) rfl rfl rfl ?_
            refine v_iload_n fx 2 dX8_readTwo_40 rfl rfl ?_
            refine v_iald fx 4 dX8_readTwo_41 rfl (by omega) (by omega) rfl ?_
            refine v_any (fun z_11 hz_11 ez_11 => ?_)
            have hm1 := mC_at hi6_5 ez_11 hz_11
            have em1 := ez_11
            have bm1 := hz_11
            refine v_sipush fx dX8_readTwo_42 (by decide +kernel) rfl ?_
            refine v_icmp_ge fx 77 dX8_readTwo_45 (by decide) rfl (by omega) (by omega) (fun h_12 => ?_) (fun h_12 => ?_)
            ·
              refine v_aload_n fx 1 dX8_readTwo_77 rfl rfl ?_
              refine v_aload_n fx 1 dX8_readTwo_78 rfl rfl ?_
              refine v_get fx 5 21 inX8 k1017 dX8_readTwo_79 rfl rfl (by decide) rfl rfl rfl ?_
              refine v_iload_n fx 4 dX8_readTwo_82 rfl rfl ?_
              refine v_iload fx 5 dX8_readTwo_83 rfl rfl ?_
              refine v_iload fx 6 dX8_readTwo_85 rfl rfl ?_
              refine v_callV (As := [.ref xr, .int (iI ab), .int (iI a0), .int (iI bk)]) (rest := []) fx [5, 2] [0, 1, 3, 4, 6, 7] [(h0, ob 8 [.ref xa, .ref xb, .ref xc, .ref xd, .ref xe, .ref xf, .ref xg, .int (iI vc), .int (iI vk), .int (iI vw), .ref xm, .ref xv, .int (iI vg), .ref xw, .int (iI vb), .int (iI vi), .ref xq, .int (iI ve), .int (iI vf), .int (iI vu), .int (iI vl), .ref xr, .ref xh, .ref xo, .ref xp, .int (iI vr), .int (iI a2_3), .int (iI vt), .int (iI vm), .int (iI d2_4), .int (iI x2_5)]), (xr, aZ g 75000 f1)] [(xf, aI g 16384 fw), (xg, aI g 16384 fb), (xo, aI g 75100 f2), (xp, aI g 25 f3), (xw, aI g 72000 f), (xq, aI g 2000 fq)] 4 0 (c_X8_b1 l g h0 xa xb xc xd xe xf xg xm xv xw xq xr xh xo xp vc vk vw vg vb vi ve vf vu vl vr a2_3 vt vm d2_4 x2_5 xr 75000 f1 ab a0 bk (by first | omega | decide | assumption) (by first | omega | decide | assumption) (by first | omega | decide | assumption) (by first | omega | decide | assumption)) dX8_readTwo_87 k1134 k1136 k29 k57 k1137 ykX8_b1 rfl rfl rfl rfl rfl rfl rfl rfl (nl rfl) ⟨nl rfl, nl rfl⟩ ⟨(nl rfl), (nl rfl)⟩ rfl (fun v9 w9 hu => ?_)
              obtain ⟨b, rfl, rfl, u_13⟩ := hu
              refine v_is (wn := [(xf, aI g 16384 fw), (xg, aI g 16384 fb), (xo, aI g 75100 f2), (xp, aI g 25 f3), (xw, aI g 72000 f), (xq, aI g 2000 fq), (h0, ob 8 [.ref xa, .ref xb, .ref xc, .ref xd, .ref xe, .ref xf, .ref xg, .int (iI vc), .int (iI vk), .int (iI vw), .ref xm, .ref xv, .int (iI vg), .ref xw, .int (iI vb), .int (iI vi), .ref xq, .int (iI ve), .int (iI vf), .int (iI vu), .int (iI vl), .ref xr, .ref xh, .ref xo, .ref xp, .int (iI vr), .int (iI a2_3), .int (iI vt), .int (iI vm), .int (iI d2_4), .int (iI x2_5)]), (xr, aZ g 75000 f1)]) (cn := 0) (sn := 0) (sn2 := [.int (iI b)]) rfl rfl rfl rfl ?_
              refine v_istore fx [(7, .int (iI b)), (6, .int (iI q)), (0, .ref h0), (1, .int (iI y)), (2, .int (iI ba)), (3, .int (iI ab)), (4, .int (iI a0)), (5, .int (iI bk))] dX8_readTwo_90 (by decide) rfl rfl ?_
              refine v_iload fx 1 dX8_readTwo_92 rfl rfl ?_
              refine v_if_ne fx 128 dX8_readTwo_94 (by decide) rfl (by omega) (fun h_14 => ?_) (fun h_14 => ?_)
              ·
                refine v_iload fx 1 dX8_readTwo_128 rfl rfl ?_
                refine v_iconst fx dX8_readTwo_130 rfl ?_
                refine v_icmp_ne fx 261 dX8_readTwo_131 (by decide) rfl (by omega) (by omega) (fun h_15 => ?_) (fun h_15 => ?_)
                ·
                  refine v_iload fx 0 dX8_readTwo_261 rfl rfl ?_
                  refine v_iload fx 1 dX8_readTwo_263 rfl rfl ?_
                  refine v_iadd fx (b + q) dX8_readTwo_265 (by rfl) rfl ?_
                  refine v_iconst fx dX8_readTwo_266 rfl ?_
                  refine v_isub fx ((b + q) - 5) dX8_readTwo_267 (by rfl) rfl ?_
                  refine v_istore fx [(8, .int (iI ((b + q) - 5))), (7, .int (iI b)), (6, .int (iI q)), (0, .ref h0), (1, .int (iI y)), (2, .int (iI ba)), (3, .int (iI ab)), (4, .int (iI a0)), (5, .int (iI bk))] dX8_readTwo_268 (by decide) rfl rfl ?_
                  refine v_aload_n fx 3 dX8_readTwo_270 rfl rfl ?_
                  refine v_iload fx 0 dX8_readTwo_271 rfl rfl ?_
                  refine v_aload_n fx 3 dX8_readTwo_273 rfl rfl ?_
                  refine v_get fx 6 9 inX8 k1005 dX8_readTwo_274 rfl rfl (by decide) rfl rfl rfl ?_
                  refine v_icmp_gt fx 287 dX8_readTwo_277 (by decide) rfl (by omega) (by omega) (fun h_16 => ?_) (fun h_16 => ?_)
                  ·
                    refine v_iconst fx dX8_readTwo_287 rfl ?_
                    refine v_goto fx 292 dX8_readTwo_288 (by decide) ?_
                    refine v_put fx 6 29 [(xf, aI g 16384 fw), (xg, aI g 16384 fb), (xo, aI g 75100 f2), (xp, aI g 25 f3), (xw, aI g 72000 f), (xq, aI g 2000 fq), (h0, ob 8 [.ref xa, .ref xb, .ref xc, .ref xd, .ref xe, .ref xf, .ref xg, .int (iI vc), .int (iI vk), .int (iI vw), .ref xm, .ref xv, .int (iI vg), .ref xw, .int (iI vb), .int (iI vi), .ref xq, .int (iI ve), .int (iI vf), .int (iI vu), .int (iI vl), .ref xr, .ref xh, .ref xo, .ref xp, .int (iI vr), .int (iI a2_3), .int (iI vt), .int (iI vm), .int (iI 1), .int (iI x2_5)]), (xr, aZ g 75000 f1)] inX8 tyX8_ok nmX8 k1025 dX8_readTwo_292 rfl rfl (by decide) rfl rfl rfl rfl (nl rfl) rfl rfl ?_
                    refine v_aload_n fx 3 dX8_readTwo_295 rfl rfl ?_
                    refine v_get fx 6 29 inX8 k1025 dX8_readTwo_296 rfl rfl (by decide) rfl rfl rfl ?_
                    refine v_if_ne fx 329 dX8_readTwo_299 (by decide) rfl (by omega) (fun h_17 => ?_) (fun h0 => absurd h0 (by omega))
                    refine v_goto fx 6 dX8_readTwo_329 (by decide) ?_
                    refine v_ws [6, 4, 5, 0, 1, 7, 2, 3] [(h0, ob 8 [.ref xa, .ref xb, .ref xc, .ref xd, .ref xe, .ref xf, .ref xg, .int (iI vc), .int (iI vk), .int (iI vw), .ref xm, .ref xv, .int (iI vg), .ref xw, .int (iI vb), .int (iI vi), .ref xq, .int (iI ve), .int (iI vf), .int (iI vu), .int (iI vl), .ref xr, .ref xh, .ref xo, .ref xp, .int (iI vr), .int (iI a2_3), .int (iI vt), .int (iI vm), .int (iI 1), .int (iI x2_5)]), (xw, aI g 72000 f), (xq, aI g 2000 fq), (xf, aI g 16384 fw), (xg, aI g 16384 fb), (xr, aZ g 75000 f1), (xo, aI g 75100 f2), (xp, aI g 25 f3)] rfl rfl ?_
                    refine v_lv [3, 4, 5, 6, 7, 8] [(0, .ref h0), (1, .int (iI y)), (2, .int (iI ba)), (3, .int (iI ab)), (4, .int (iI a0)), (5, .int (iI bk))] rfl ?_
                    exact ihL6 a0 bk a2_3 1 x2_5 f1 f2 f3 (by omega) (by omega) (by omega) (by omega) (by omega) (by first | exact hmC | exact hi6_5) (by omega)
                  ·
                    refine v_iload fx 0 dX8_readTwo_280 rfl rfl ?_
                    refine v_iload fx 7 dX8_readTwo_282 rfl rfl ?_
                    refine v_icmp_gt fx 291 dX8_readTwo_284 (by decide) rfl (by omega) (by omega) (fun h_18 => ?_) (fun h_18 => ?_)
                    ·
                      refine v_iconst fx dX8_readTwo_291 rfl ?_
                      refine v_put fx 6 29 [(xf, aI g 16384 fw), (xg, aI g 16384 fb), (xo, aI g 75100 f2), (xp, aI g 25 f3), (xw, aI g 72000 f), (xq, aI g 2000 fq), (h0, ob 8 [.ref xa, .ref xb, .ref xc, .ref xd, .ref xe, .ref xf, .ref xg, .int (iI vc), .int (iI vk), .int (iI vw), .ref xm, .ref xv, .int (iI vg), .ref xw, .int (iI vb), .int (iI vi), .ref xq, .int (iI ve), .int (iI vf), .int (iI vu), .int (iI vl), .ref xr, .ref xh, .ref xo, .ref xp, .int (iI vr), .int (iI a2_3), .int (iI vt), .int (iI vm), .int (iI 0), .int (iI x2_5)]), (xr, aZ g 75000 f1)] inX8 tyX8_ok nmX8 k1025 dX8_readTwo_292 rfl rfl (by decide) rfl rfl rfl rfl (nl rfl) rfl rfl ?_
                      refine v_aload_n fx 3 dX8_readTwo_295 rfl rfl ?_
                      refine v_get fx 6 29 inX8 k1025 dX8_readTwo_296 rfl rfl (by decide) rfl rfl rfl ?_
                      refine v_if_ne fx 329 dX8_readTwo_299 (by decide) rfl (by omega) (fun h0 => absurd h0 (by omega)) (fun h_19 => ?_)
                      refine v_aload_n fx 3 dX8_readTwo_302 rfl rfl ?_
                      refine v_iload_n fx 5 dX8_readTwo_303 rfl rfl ?_
                      refine v_iload fx 7 dX8_readTwo_304 rfl rfl ?_
                      refine v_iload fx 0 dX8_readTwo_306 rfl rfl ?_
                      refine v_iload fx 8 dX8_readTwo_308 rfl rfl ?_
                      refine v_callV (As := [.int (iI ba), .int (iI a0), .int (iI ((b + q) - 5)), .int (iI bk)]) (rest := []) fx [6, 7] [0, 1, 2, 3, 4, 5] [(h0, ob 8 [.ref xa, .ref xb, .ref xc, .ref xd, .ref xe, .ref xf, .ref xg, .int (iI vc), .int (iI vk), .int (iI vw), .ref xm, .ref xv, .int (iI vg), .ref xw, .int (iI vb), .int (iI vi), .ref xq, .int (iI ve), .int (iI vf), .int (iI vu), .int (iI vl), .ref xr, .ref xh, .ref xo, .ref xp, .int (iI vr), .int (iI a2_3), .int (iI vt), .int (iI vm), .int (iI 0), .int (iI x2_5)]), (xr, aZ g 75000 f1)] [(xf, aI g 16384 fw), (xg, aI g 16384 fb), (xo, aI g 75100 f2), (xp, aI g 25 f3), (xw, aI g 72000 f), (xq, aI g 2000 fq)] 4 0 (c_X8_paint l g h0 xa xb xc xd xe xf xg xm xv xw xq xr xh xo xp vc vk vw vg vb vi ve vf vu vl vr a2_3 vt vm 0 x2_5 f1 ba a0 ((b + q) - 5) bk (by first | omega | decide | assumption) (by first | omega | decide | assumption) (by first | omega | decide | assumption)) dX8_readTwo_310 k1174 k1176 k36 k57 k1177 ykX8_paint rfl rfl rfl rfl rfl rfl rfl rfl (nl rfl) ⟨nl rfl, nl rfl⟩ ⟨(nl rfl), (nl rfl)⟩ rfl (fun v9 w9 hu => ?_)
                      obtain ⟨f2_20, rfl, rfl⟩ := hu
                      refine v_is (wn := [(xf, aI g 16384 fw), (xg, aI g 16384 fb), (xo, aI g 75100 f2), (xp, aI g 25 f3), (xw, aI g 72000 f), (xq, aI g 2000 fq), (h0, ob 8 [.ref xa, .ref xb, .ref xc, .ref xd, .ref xe, .ref xf, .ref xg, .int (iI vc), .int (iI vk), .int (iI vw), .ref xm, .ref xv, .int (iI vg), .ref xw, .int (iI vb), .int (iI vi), .ref xq, .int (iI ve), .int (iI vf), .int (iI vu), .int (iI vl), .ref xr, .ref xh, .ref xo, .ref xp, .int (iI vr), .int (iI a2_3), .int (iI vt), .int (iI vm), .int (iI 0), .int (iI x2_5)]), (xr, aZ g 75000 f2_20)]) (cn := 0) (sn := 0) (sn2 := []) rfl rfl rfl rfl ?_
                      refine v_iload fx 0 dX8_readTwo_313 rfl rfl ?_
                      refine v_istore fx [(4, .int (iI ((b + q) - 5))), (8, .int (iI ((b + q) - 5))), (7, .int (iI b)), (6, .int (iI q)), (0, .ref h0), (1, .int (iI y)), (2, .int (iI ba)), (3, .int (iI ab)), (5, .int (iI bk))] dX8_readTwo_315 (by decide) rfl rfl ?_
                      refine v_iload fx 8 dX8_readTwo_317 rfl rfl ?_
                      refine v_if_ne fx 326 dX8_readTwo_319 (by decide) rfl (by omega) (fun h_21 => ?_) (fun h_21 => ?_)
                      ·
                        refine v_iconst fx dX8_readTwo_326 rfl ?_
                        refine v_istore fx [(5, .int (iI 0)), (4, .int (iI ((b + q) - 5))), (8, .int (iI ((b + q) - 5))), (7, .int (iI b)), (6, .int (iI q)), (0, .ref h0), (1, .int (iI y)), (2, .int (iI ba)), (3, .int (iI ab))] dX8_readTwo_327 (by decide) rfl rfl ?_
                        refine v_goto fx 6 dX8_readTwo_329 (by decide) ?_
                        refine v_ws [6, 4, 5, 0, 1, 7, 2, 3] [(h0, ob 8 [.ref xa, .ref xb, .ref xc, .ref xd, .ref xe, .ref xf, .ref xg, .int (iI vc), .int (iI vk), .int (iI vw), .ref xm, .ref xv, .int (iI vg), .ref xw, .int (iI vb), .int (iI vi), .ref xq, .int (iI ve), .int (iI vf), .int (iI vu), .int (iI vl), .ref xr, .ref xh, .ref xo, .ref xp, .int (iI vr), .int (iI a2_3), .int (iI vt), .int (iI vm), .int (iI 0), .int (iI x2_5)]), (xw, aI g 72000 f), (xq, aI g 2000 fq), (xf, aI g 16384 fw), (xg, aI g 16384 fb), (xr, aZ g 75000 f2_20), (xo, aI g 75100 f2), (xp, aI g 25 f3)] rfl rfl ?_
                        refine v_lv [5, 6, 7, 8, 1, 0] [(0, .ref h0), (1, .int (iI y)), (2, .int (iI ba)), (3, .int (iI ab)), (4, .int (iI ((b + q) - 5))), (5, .int (iI 0))] rfl ?_
                        exact ihL6 ((b + q) - 5) 0 a2_3 0 x2_5 f2_20 f2 f3 (by omega) (by omega) (by omega) (by omega) (by omega) (by first | exact hmC | exact hi6_5) (by omega)
                      ·
                        refine v_iconst fx dX8_readTwo_322 rfl ?_
                        refine v_goto fx 327 dX8_readTwo_323 (by decide) ?_
                        refine v_istore fx [(5, .int (iI 1)), (4, .int (iI ((b + q) - 5))), (8, .int (iI ((b + q) - 5))), (7, .int (iI b)), (6, .int (iI q)), (0, .ref h0), (1, .int (iI y)), (2, .int (iI ba)), (3, .int (iI ab))] dX8_readTwo_327 (by decide) rfl rfl ?_
                        refine v_goto fx 6 dX8_readTwo_329 (by decide) ?_
                        refine v_ws [6, 4, 5, 0, 1, 7, 2, 3] [(h0, ob 8 [.ref xa, .ref xb, .ref xc, .ref xd, .ref xe, .ref xf, .ref xg, .int (iI vc), .int (iI vk), .int (iI vw), .ref xm, .ref xv, .int (iI vg), .ref xw, .int (iI vb), .int (iI vi), .ref xq, .int (iI ve), .int (iI vf), .int (iI vu), .int (iI vl), .ref xr, .ref xh, .ref xo, .ref xp, .int (iI vr), .int (iI a2_3), .int (iI vt), .int (iI vm), .int (iI 0), .int (iI x2_5)]), (xw, aI g 72000 f), (xq, aI g 2000 fq), (xf, aI g 16384 fw), (xg, aI g 16384 fb), (xr, aZ g 75000 f2_20), (xo, aI g 75100 f2), (xp, aI g 25 f3)] rfl rfl ?_
                        refine v_lv [5, 6, 7, 8, 1, 0] [(0, .ref h0), (1, .int (iI y)), (2, .int (iI ba)), (3, .int (iI ab)), (4, .int (iI ((b + q) - 5))), (5, .int (iI 1))] rfl ?_
                        exact ihL6 ((b + q) - 5) 1 a2_3 0 x2_5 f2_20 f2 f3 (by omega) (by omega) (by omega) (by omega) (by omega) (by first | exact hmC | exact hi6_5) (by omega)
                    ·
                      refine v_iconst fx dX8_readTwo_287 rfl ?_
                      refine v_goto fx 292 dX8_readTwo_288 (by decide) ?_
                      refine v_put fx 6 29 [(xf, aI g 16384 fw), (xg, aI g 16384 fb), (xo, aI g 75100 f2), (xp, aI g 25 f3), (xw, aI g 72000 f), (xq, aI g 2000 fq), (h0, ob 8 [.ref xa, .ref xb, .ref xc, .ref xd, .ref xe, .ref xf, .ref xg, .int (iI vc), .int (iI vk), .int (iI vw), .ref xm, .ref xv, .int (iI vg), .ref xw, .int (iI vb), .int (iI vi), .ref xq, .int (iI ve), .int (iI vf), .int (iI vu), .int (iI vl), .ref xr, .ref xh, .ref xo, .ref xp, .int (iI vr), .int (iI a2_3), .int (iI vt), .int (iI vm), .int (iI 1), .int (iI x2_5)]), (xr, aZ g 75000 f1)] inX8 tyX8_ok nmX8 k1025 dX8_readTwo_292 rfl rfl (by decide) rfl rfl rfl rfl (nl rfl) rfl rfl ?_
                      refine v_aload_n fx 3 dX8_readTwo_295 rfl rfl ?_
                      refine v_get fx 6 29 inX8 k1025 dX8_readTwo_296 rfl rfl (by decide) rfl rfl rfl ?_
                      refine v_if_ne fx 329 dX8_readTwo_299 (by decide) rfl (by omega) (fun h_22 => ?_) (fun h0 => absurd h0 (by omega))
                      refine v_goto fx 6 dX8_readTwo_329 (by decide) ?_
                      refine v_ws [6, 4, 5, 0, 1, 7, 2, 3] [(h0, ob 8 [.ref xa, .ref xb, .ref xc, .ref xd, .ref xe, .ref xf, .ref xg, .int (iI vc), .int (iI vk), .int (iI vw), .ref xm, .ref xv, .int (iI vg), .ref xw, .int (iI vb), .int (iI vi), .ref xq, .int (iI ve), .int (iI vf), .int (iI vu), .int (iI vl), .ref xr, .ref xh, .ref xo, .ref xp, .int (iI vr), .int (iI a2_3), .int (iI vt), .int (iI vm), .int (iI 1), .int (iI x2_5)]), (xw, aI g 72000 f), (xq, aI g 2000 fq), (xf, aI g 16384 fw), (xg, aI g 16384 fb), (xr, aZ g 75000 f1), (xo, aI g 75100 f2), (xp, aI g 25 f3)] rfl rfl ?_
                      refine v_lv [3, 4, 5, 6, 7, 8] [(0, .ref h0), (1, .int (iI y)), (2, .int (iI ba)), (3, .int (iI ab)), (4, .int (iI a0)), (5, .int (iI bk))] rfl ?_
                      exact ihL6 a0 bk a2_3 1 x2_5 f1 f2 f3 (by omega) (by omega) (by omega) (by omega) (by omega) (by first | exact hmC | exact hi6_5) (by omega)
                ·
                  refine v_iload fx 6 dX8_readTwo_134 rfl rfl ?_
                  refine v_if_ge fx 143 dX8_readTwo_136 (by decide) rfl (by omega) (fun h_23 => ?_) (fun h_23 => ?_)
                  ·
                    refine v_iload fx 6 dX8_readTwo_143 rfl rfl ?_
                    refine v_istore fx [(8, .int (iI a0)), (7, .int (iI b)), (6, .int (iI q)), (0, .ref h0), (1, .int (iI y)), (2, .int (iI ba)), (3, .int (iI ab)), (4, .int (iI a0)), (5, .int (iI bk))] dX8_readTwo_145 (by decide) rfl rfl ?_
                    refine v_aload_n fx 3 dX8_readTwo_147 rfl rfl ?_
                    refine v_iload fx 8 dX8_readTwo_148 rfl rfl ?_
                    refine v_aload_n fx 3 dX8_readTwo_150 rfl rfl ?_
                    refine v_get fx 6 9 inX8 k1005 dX8_readTwo_151 rfl rfl (by decide) rfl rfl rfl ?_
                    refine v_iload fx 0 dX8_readTwo_154 rfl rfl ?_
                    refine v_isub fx (vw - a0) dX8_readTwo_156 (by rfl) rfl ?_
                    refine v_callV (As := [.int (iI bk), .int (iI (vw - a0))]) (rest := []) fx [6, 4, 5, 0, 1] [2, 3, 7] [(h0, ob 8 [.ref xa, .ref xb, .ref xc, .ref xd, .ref xe, .ref xf, .ref xg, .int (iI vc), .int (iI vk), .int (iI vw), .ref xm, .ref xv, .int (iI vg), .ref xw, .int (iI vb), .int (iI vi), .ref xq, .int (iI ve), .int (iI vf), .int (iI vu), .int (iI vl), .ref xr, .ref xh, .ref xo, .ref xp, .int (iI vr), .int (iI a2_3), .int (iI vt), .int (iI vm), .int (iI d2_4), .int (iI x2_5)]), (xw, aI g 72000 f), (xq, aI g 2000 fq), (xf, aI g 16384 fw), (xg, aI g 16384 fb)] [(xo, aI g 75100 f2), (xp, aI g 25 f3), (xr, aZ g 75000 f1)] 2 0 (c_X8_readRun l g h0 xa xb xc xd xe xf xg xm xv xw xq xr xh xo xp vc vk vw vg vb vi ve vf vu vl vr a2_3 vt vm d2_4 x2_5 f fq fw fb bk (vw - a0) (by first | omega | decide | assumption) (by first | omega | decide | assumption) (by first | omega | decide | assumption) (by first | omega | decide | assumption) (by first | omega | decide | assumption) (by first | omega | decide | assumption) (by first | omega | decide | assumption) (by first | omega | decide | assumption) (by first | omega | decide | assumption) (by first | omega | decide | assumption)) dX8_readTwo_157 k1182 k1184 k38 k57 k1185 ykX8_readRun rfl rfl rfl rfl rfl rfl rfl rfl (nl rfl) ⟨nl rfl, nl rfl⟩ ⟨(nl rfl), (nl rfl)⟩ rfl (fun v9 w9 hu => ?_)
                    obtain ⟨r_24, a2_25, d2_26, rfl, rfl, u_27, u_28, u_29⟩ := hu
                    refine v_is (wn := [(xo, aI g 75100 f2), (xp, aI g 25 f3), (xr, aZ g 75000 f1), (h0, ob 8 [.ref xa, .ref xb, .ref xc, .ref xd, .ref xe, .ref xf, .ref xg, .int (iI vc), .int (iI vk), .int (iI vw), .ref xm, .ref xv, .int (iI vg), .ref xw, .int (iI vb), .int (iI vi), .ref xq, .int (iI ve), .int (iI vf), .int (iI vu), .int (iI vl), .ref xr, .ref xh, .ref xo, .ref xp, .int (iI vr), .int (iI a2_25), .int (iI vt), .int (iI vm), .int (iI d2_26), .int (iI x2_5)]), (xw, aI g 72000 f), (xq, aI g 2000 fq), (xf, aI g 16384 fw), (xg, aI g 16384 fb)]) (cn := 0) (sn := 0) (sn2 := [.int (iI r_24)]) rfl rfl rfl rfl ?_
                    refine v_istore fx [(9, .int (iI r_24)), (8, .int (iI a0)), (7, .int (iI b)), (6, .int (iI q)), (0, .ref h0), (1, .int (iI y)), (2, .int (iI ba)), (3, .int (iI ab)), (4, .int (iI a0)), (5, .int (iI bk))] dX8_readTwo_160 (by decide) rfl rfl ?_
                    refine v_aload_n fx 4 dX8_readTwo_162 rfl rfl ?_
                    refine v_get fx 3 29 inX8 k1025 dX8_readTwo_163 rfl rfl (by decide) rfl rfl rfl ?_
                    refine v_if_eq fx 173 dX8_readTwo_166 (by decide) rfl (by omega) (fun h_30 => ?_) (fun h_30 => ?_)
                    ·
                      refine v_aload_n fx 4 dX8_readTwo_173 rfl rfl ?_
                      refine v_iload fx 9 dX8_readTwo_174 rfl rfl ?_
                      refine v_if_ne fx 183 dX8_readTwo_176 (by decide) rfl (by omega) (fun h_31 => ?_) (fun h_31 => ?_)
                      ·
                        refine v_iconst fx dX8_readTwo_183 rfl ?_
                        refine v_aload_n fx 4 dX8_readTwo_184 rfl rfl ?_
                        refine v_get fx 3 9 inX8 k1005 dX8_readTwo_185 rfl rfl (by decide) rfl rfl rfl ?_
                        refine v_iload fx 1 dX8_readTwo_188 rfl rfl ?_
                        refine v_isub fx (vw - a0) dX8_readTwo_190 (by rfl) rfl ?_
                        refine v_iload fx 0 dX8_readTwo_191 rfl rfl ?_
                        refine v_isub fx ((vw - a0) - r_24) dX8_readTwo_193 (by rfl) rfl ?_
                        refine v_callV (As := [.int (iI 0), .int (iI ((vw - a0) - r_24))]) (rest := []) fx [3, 4, 5, 6, 7] [0, 1, 2] [(h0, ob 8 [.ref xa, .ref xb, .ref xc, .ref xd, .ref xe, .ref xf, .ref xg, .int (iI vc), .int (iI vk), .int (iI vw), .ref xm, .ref xv, .int (iI vg), .ref xw, .int (iI vb), .int (iI vi), .ref xq, .int (iI ve), .int (iI vf), .int (iI vu), .int (iI vl), .ref xr, .ref xh, .ref xo, .ref xp, .int (iI vr), .int (iI a2_25), .int (iI vt), .int (iI vm), .int (iI d2_26), .int (iI x2_5)]), (xw, aI g 72000 f), (xq, aI g 2000 fq), (xf, aI g 16384 fw), (xg, aI g 16384 fb)] [(xo, aI g 75100 f2), (xp, aI g 25 f3), (xr, aZ g 75000 f1)] 2 0 (c_X8_readRun l g h0 xa xb xc xd xe xf xg xm xv xw xq xr xh xo xp vc vk vw vg vb vi ve vf vu vl vr a2_25 vt vm d2_26 x2_5 f fq fw fb 0 ((vw - a0) - r_24) (by first | omega | decide | assumption) (by first | omega | decide | assumption) (by first | omega | decide | assumption) (by first | omega | decide | assumption) (by first | omega | decide | assumption) (by first | omega | decide | assumption) (by first | omega | decide | assumption) (by first | omega | decide | assumption) (by first | omega | decide | assumption) (by first | omega | decide | assumption)) dX8_readTwo_194 k1182 k1184 k38 k57 k1185 ykX8_readRun rfl rfl rfl rfl rfl rfl rfl rfl (nl rfl) ⟨nl rfl, nl rfl⟩ ⟨(nl rfl), (nl rfl)⟩ rfl (fun v9 w9 hu => ?_)
                        obtain ⟨r_32, a2_33, d2_34, rfl, rfl, u_35, u_36, u_37⟩ := hu
                        refine v_is (wn := [(xo, aI g 75100 f2), (xp, aI g 25 f3), (xr, aZ g 75000 f1), (h0, ob 8 [.ref xa, .ref xb, .ref xc, .ref xd, .ref xe, .ref xf, .ref xg, .int (iI vc), .int (iI vk), .int (iI vw), .ref xm, .ref xv, .int (iI vg), .ref xw, .int (iI vb), .int (iI vi), .ref xq, .int (iI ve), .int (iI vf), .int (iI vu), .int (iI vl), .ref xr, .ref xh, .ref xo, .ref xp, .int (iI vr), .int (iI a2_33), .int (iI vt), .int (iI vm), .int (iI d2_34), .int (iI x2_5)]), (xw, aI g 72000 f), (xq, aI g 2000 fq), (xf, aI g 16384 fw), (xg, aI g 16384 fb)]) (cn := 0) (sn := 0) (sn2 := [.int (iI r_32)]) rfl rfl rfl rfl ?_
                        refine v_istore fx [(10, .int (iI r_32)), (9, .int (iI r_24)), (8, .int (iI a0)), (7, .int (iI b)), (6, .int (iI q)), (0, .ref h0), (1, .int (iI y)), (2, .int (iI ba)), (3, .int (iI ab)), (4, .int (iI a0)), (5, .int (iI bk))] dX8_readTwo_197 (by decide) rfl rfl ?_
                        refine v_aload_n fx 5 dX8_readTwo_199 rfl rfl ?_
                        refine v_get fx 3 29 inX8 k1025 dX8_readTwo_200 rfl rfl (by decide) rfl rfl rfl ?_
                        refine v_if_ne fx 258 dX8_readTwo_203 (by decide) rfl (by omega) (fun h_38 => ?_) (fun h_38 => ?_)
                        ·
                          refine v_goto fx 329 dX8_readTwo_258 (by decide) ?_
                          refine v_goto fx 6 dX8_readTwo_329 (by decide) ?_
                          refine v_ws [3, 4, 5, 6, 7, 2, 0, 1] [(h0, ob 8 [.ref xa, .ref xb, .ref xc, .ref xd, .ref xe, .ref xf, .ref xg, .int (iI vc), .int (iI vk), .int (iI vw), .ref xm, .ref xv, .int (iI vg), .ref xw, .int (iI vb), .int (iI vi), .ref xq, .int (iI ve), .int (iI vf), .int (iI vu), .int (iI vl), .ref xr, .ref xh, .ref xo, .ref xp, .int (iI vr), .int (iI a2_33), .int (iI vt), .int (iI vm), .int (iI d2_34), .int (iI x2_5)]), (xw, aI g 72000 f), (xq, aI g 2000 fq), (xf, aI g 16384 fw), (xg, aI g 16384 fb), (xr, aZ g 75000 f1), (xo, aI g 75100 f2), (xp, aI g 25 f3)] rfl rfl ?_
                          refine v_lv [5, 6, 7, 8, 9, 10] [(0, .ref h0), (1, .int (iI y)), (2, .int (iI ba)), (3, .int (iI ab)), (4, .int (iI a0)), (5, .int (iI bk))] rfl ?_
                          exact ihL6 a0 bk a2_33 d2_34 x2_5 f1 f2 f3 (by omega) (by omega) (by omega) (by omega) (by omega) (by first | exact hmC | exact hi6_5) (by omega)
                        ·
                          refine v_aload_n fx 5 dX8_readTwo_206 rfl rfl ?_
                          refine v_iload_n fx 7 dX8_readTwo_207 rfl rfl ?_
                          refine v_iload fx 2 dX8_readTwo_208 rfl rfl ?_
                          refine v_iload fx 2 dX8_readTwo_210 rfl rfl ?_
                          refine v_iload fx 1 dX8_readTwo_212 rfl rfl ?_
                          refine v_iadd fx (a0 + r_24) dX8_readTwo_214 (by rfl) rfl ?_
                          refine v_iload fx 10 dX8_readTwo_215 rfl rfl ?_
                          refine v_callV (As := [.int (iI ba), .int (iI a0), .int (iI (a0 + r_24)), .int (iI bk)]) (rest := []) fx [3, 2] [0, 1, 4, 5, 6, 7] [(h0, ob 8 [.ref xa, .ref xb, .ref xc, .ref xd, .ref xe, .ref xf, .ref xg, .int (iI vc), .int (iI vk), .int (iI vw), .ref xm, .ref xv, .int (iI vg), .ref xw, .int (iI vb), .int (iI vi), .ref xq, .int (iI ve), .int (iI vf), .int (iI vu), .int (iI vl), .ref xr, .ref xh, .ref xo, .ref xp, .int (iI vr), .int (iI a2_33), .int (iI vt), .int (iI vm), .int (iI d2_34), .int (iI x2_5)]), (xr, aZ g 75000 f1)] [(xo, aI g 75100 f2), (xp, aI g 25 f3), (xw, aI g 72000 f), (xq, aI g 2000 fq), (xf, aI g 16384 fw), (xg, aI g 16384 fb)] 4 0 (c_X8_paint l g h0 xa xb xc xd xe xf xg xm xv xw xq xr xh xo xp vc vk vw vg vb vi ve vf vu vl vr a2_33 vt vm d2_34 x2_5 f1 ba a0 (a0 + r_24) bk (by first | omega | decide | assumption) (by first | omega | decide | assumption) (by first | omega | decide | assumption)) dX8_readTwo_217 k1174 k1176 k36 k57 k1177 ykX8_paint rfl rfl rfl rfl rfl rfl rfl rfl (nl rfl) ⟨nl rfl, nl rfl⟩ ⟨(nl rfl), (nl rfl)⟩ rfl (fun v9 w9 hu => ?_)
                          obtain ⟨f2_39, rfl, rfl⟩ := hu
                          refine v_is (wn := [(xo, aI g 75100 f2), (xp, aI g 25 f3), (xw, aI g 72000 f), (xq, aI g 2000 fq), (xf, aI g 16384 fw), (xg, aI g 16384 fb), (h0, ob 8 [.ref xa, .ref xb, .ref xc, .ref xd, .ref xe, .ref xf, .ref xg, .int (iI vc), .int (iI vk), .int (iI vw), .ref xm, .ref xv, .int (iI vg), .ref xw, .int (iI vb), .int (iI vi), .ref xq, .int (iI ve), .int (iI vf), .int (iI vu), .int (iI vl), .ref xr, .ref xh, .ref xo, .ref xp, .int (iI vr), .int (iI a2_33), .int (iI vt), .int (iI vm), .int (iI d2_34), .int (iI x2_5)]), (xr, aZ g 75000 f2_39)]) (cn := 0) (sn := 0) (sn2 := []) rfl rfl rfl rfl ?_
                          refine v_aload_n fx 5 dX8_readTwo_220 rfl rfl ?_
                          refine v_iload_n fx 7 dX8_readTwo_221 rfl rfl ?_
                          refine v_iload fx 2 dX8_readTwo_222 rfl rfl ?_
                          refine v_iload fx 1 dX8_readTwo_224 rfl rfl ?_
                          refine v_iadd fx (a0 + r_24) dX8_readTwo_226 (by rfl) rfl ?_
                          refine v_iload fx 2 dX8_readTwo_227 rfl rfl ?_
                          refine v_iload fx 1 dX8_readTwo_229 rfl rfl ?_
                          refine v_iadd fx (a0 + r_24) dX8_readTwo_231 (by rfl) rfl ?_
                          refine v_iload fx 0 dX8_readTwo_232 rfl rfl ?_
                          refine v_iadd fx ((a0 + r_24) + r_32) dX8_readTwo_234 (by rfl) rfl ?_
                          refine v_iload fx 10 dX8_readTwo_235 rfl rfl ?_
                          refine v_if_ne fx 244 dX8_readTwo_237 (by decide) rfl (by omega) (fun h_40 => ?_) (fun h_40 => ?_)
                          ·
                            refine v_iconst fx dX8_readTwo_244 rfl ?_
                            refine v_callV (As := [.int (iI ba), .int (iI (a0 + r_24)), .int (iI ((a0 + r_24) + r_32)), .int (iI 0)]) (rest := []) fx [6, 7] [0, 1, 2, 3, 4, 5] [(h0, ob 8 [.ref xa, .ref xb, .ref xc, .ref xd, .ref xe, .ref xf, .ref xg, .int (iI vc), .int (iI vk), .int (iI vw), .ref xm, .ref xv, .int (iI vg), .ref xw, .int (iI vb), .int (iI vi), .ref xq, .int (iI ve), .int (iI vf), .int (iI vu), .int (iI vl), .ref xr, .ref xh, .ref xo, .ref xp, .int (iI vr), .int (iI a2_33), .int (iI vt), .int (iI vm), .int (iI d2_34), .int (iI x2_5)]), (xr, aZ g 75000 f2_39)] [(xo, aI g 75100 f2), (xp, aI g 25 f3), (xw, aI g 72000 f), (xq, aI g 2000 fq), (xf, aI g 16384 fw), (xg, aI g 16384 fb)] 4 0 (c_X8_paint l g h0 xa xb xc xd xe xf xg xm xv xw xq xr xh xo xp vc vk vw vg vb vi ve vf vu vl vr a2_33 vt vm d2_34 x2_5 f2_39 ba (a0 + r_24) ((a0 + r_24) + r_32) 0 (by first | omega | decide | assumption) (by first | omega | decide | assumption) (by first | omega | decide | assumption)) dX8_readTwo_245 k1174 k1176 k36 k57 k1177 ykX8_paint rfl rfl rfl rfl rfl rfl rfl rfl (nl rfl) ⟨nl rfl, nl rfl⟩ ⟨(nl rfl), (nl rfl)⟩ rfl (fun v9 w9 hu => ?_)
                            obtain ⟨f2_41, rfl, rfl⟩ := hu
                            refine v_is (wn := [(xo, aI g 75100 f2), (xp, aI g 25 f3), (xw, aI g 72000 f), (xq, aI g 2000 fq), (xf, aI g 16384 fw), (xg, aI g 16384 fb), (h0, ob 8 [.ref xa, .ref xb, .ref xc, .ref xd, .ref xe, .ref xf, .ref xg, .int (iI vc), .int (iI vk), .int (iI vw), .ref xm, .ref xv, .int (iI vg), .ref xw, .int (iI vb), .int (iI vi), .ref xq, .int (iI ve), .int (iI vf), .int (iI vu), .int (iI vl), .ref xr, .ref xh, .ref xo, .ref xp, .int (iI vr), .int (iI a2_33), .int (iI vt), .int (iI vm), .int (iI d2_34), .int (iI x2_5)]), (xr, aZ g 75000 f2_41)]) (cn := 0) (sn := 0) (sn2 := []) rfl rfl rfl rfl ?_
                            refine v_iload fx 2 dX8_readTwo_248 rfl rfl ?_
                            refine v_iload fx 1 dX8_readTwo_250 rfl rfl ?_
                            refine v_iadd fx (a0 + r_24) dX8_readTwo_252 (by rfl) rfl ?_
                            refine v_iload fx 0 dX8_readTwo_253 rfl rfl ?_
                            refine v_iadd fx ((a0 + r_24) + r_32) dX8_readTwo_255 (by rfl) rfl ?_
                            refine v_istore fx [(4, .int (iI ((a0 + r_24) + r_32))), (10, .int (iI r_32)), (9, .int (iI r_24)), (8, .int (iI a0)), (7, .int (iI b)), (6, .int (iI q)), (0, .ref h0), (1, .int (iI y)), (2, .int (iI ba)), (3, .int (iI ab)), (5, .int (iI bk))] dX8_readTwo_256 (by decide) rfl rfl ?_
                            refine v_goto fx 329 dX8_readTwo_258 (by decide) ?_
                            refine v_goto fx 6 dX8_readTwo_329 (by decide) ?_
                            refine v_ws [6, 2, 3, 4, 5, 7, 0, 1] [(h0, ob 8 [.ref xa, .ref xb, .ref xc, .ref xd, .ref xe, .ref xf, .ref xg, .int (iI vc), .int (iI vk), .int (iI vw), .ref xm, .ref xv, .int (iI vg), .ref xw, .int (iI vb), .int (iI vi), .ref xq, .int (iI ve), .int (iI vf), .int (iI vu), .int (iI vl), .ref xr, .ref xh, .ref xo, .ref xp, .int (iI vr), .int (iI a2_33), .int (iI vt), .int (iI vm), .int (iI d2_34), .int (iI x2_5)]), (xw, aI g 72000 f), (xq, aI g 2000 fq), (xf, aI g 16384 fw), (xg, aI g 16384 fb), (xr, aZ g 75000 f2_41), (xo, aI g 75100 f2), (xp, aI g 25 f3)] rfl rfl ?_
                            refine v_lv [6, 7, 8, 9, 0, 10] [(0, .ref h0), (1, .int (iI y)), (2, .int (iI ba)), (3, .int (iI ab)), (4, .int (iI ((a0 + r_24) + r_32))), (5, .int (iI bk))] rfl ?_
                            exact ihL6 ((a0 + r_24) + r_32) bk a2_33 d2_34 x2_5 f2_41 f2 f3 (by omega) (by omega) (by omega) (by omega) (by omega) (by first | exact hmC | exact hi6_5) (by omega)
                          ·
                            refine v_iconst fx dX8_readTwo_240 rfl ?_
                            refine v_goto fx 245 dX8_readTwo_241 (by decide) ?_
                            refine v_callV (As := [.int (iI ba), .int (iI (a0 + r_24)), .int (iI ((a0 + r_24) + r_32)), .int (iI 1)]) (rest := []) fx [6, 7] [0, 1, 2, 3, 4, 5] [(h0, ob 8 [.ref xa, .ref xb, .ref xc, .ref xd, .ref xe, .ref xf, .ref xg, .int (iI vc), .int (iI vk), .int (iI vw), .ref xm, .ref xv, .int (iI vg), .ref xw, .int (iI vb), .int (iI vi), .ref xq, .int (iI ve), .int (iI vf), .int (iI vu), .int (iI vl), .ref xr, .ref xh, .ref xo, .ref xp, .int (iI vr), .int (iI a2_33), .int (iI vt), .int (iI vm), .int (iI d2_34), .int (iI x2_5)]), (xr, aZ g 75000 f2_39)] [(xo, aI g 75100 f2), (xp, aI g 25 f3), (xw, aI g 72000 f), (xq, aI g 2000 fq), (xf, aI g 16384 fw), (xg, aI g 16384 fb)] 4 0 (c_X8_paint l g h0 xa xb xc xd xe xf xg xm xv xw xq xr xh xo xp vc vk vw vg vb vi ve vf vu vl vr a2_33 vt vm d2_34 x2_5 f2_39 ba (a0 + r_24) ((a0 + r_24) + r_32) 1 (by first | omega | decide | assumption) (by first | omega | decide | assumption) (by first | omega | decide | assumption)) dX8_readTwo_245 k1174 k1176 k36 k57 k1177 ykX8_paint rfl rfl rfl rfl rfl rfl rfl rfl (nl rfl) ⟨nl rfl, nl rfl⟩ ⟨(nl rfl), (nl rfl)⟩ rfl (fun v9 w9 hu => ?_)
                            obtain ⟨f2_42, rfl, rfl⟩ := hu
                            refine v_is (wn := [(xo, aI g 75100 f2), (xp, aI g 25 f3), (xw, aI g 72000 f), (xq, aI g 2000 fq), (xf, aI g 16384 fw), (xg, aI g 16384 fb), (h0, ob 8 [.ref xa, .ref xb, .ref xc, .ref xd, .ref xe, .ref xf, .ref xg, .int (iI vc), .int (iI vk), .int (iI vw), .ref xm, .ref xv, .int (iI vg), .ref xw, .int (iI vb), .int (iI vi), .ref xq, .int (iI ve), .int (iI vf), .int (iI vu), .int (iI vl), .ref xr, .ref xh, .ref xo, .ref xp, .int (iI vr), .int (iI a2_33), .int (iI vt), .int (iI vm), .int (iI d2_34), .int (iI x2_5)]), (xr, aZ g 75000 f2_42)]) (cn := 0) (sn := 0) (sn2 := []) rfl rfl rfl rfl ?_
                            refine v_iload fx 2 dX8_readTwo_248 rfl rfl ?_
                            refine v_iload fx 1 dX8_readTwo_250 rfl rfl ?_
                            refine v_iadd fx (a0 + r_24) dX8_readTwo_252 (by rfl) rfl ?_
                            refine v_iload fx 0 dX8_readTwo_253 rfl rfl ?_
                            refine v_iadd fx ((a0 + r_24) + r_32) dX8_readTwo_255 (by rfl) rfl ?_
                            refine v_istore fx [(4, .int (iI ((a0 + r_24) + r_32))), (10, .int (iI r_32)), (9, .int (iI r_24)), (8, .int (iI a0)), (7, .int (iI b)), (6, .int (iI q)), (0, .ref h0), (1, .int (iI y)), (2, .int (iI ba)), (3, .int (iI ab)), (5, .int (iI bk))] dX8_readTwo_256 (by decide) rfl rfl ?_
                            refine v_goto fx 329 dX8_readTwo_258 (by decide) ?_
                            refine v_goto fx 6 dX8_readTwo_329 (by decide) ?_
                            refine v_ws [6, 2, 3, 4, 5, 7, 0, 1] [(h0, ob 8 [.ref xa, .ref xb, .ref xc, .ref xd, .ref xe, .ref xf, .ref xg, .int (iI vc), .int (iI vk), .int (iI vw), .ref xm, .ref xv, .int (iI vg), .ref xw, .int (iI vb), .int (iI vi), .ref xq, .int (iI ve), .int (iI vf), .int (iI vu), .int (iI vl), .ref xr, .ref xh, .ref xo, .ref xp, .int (iI vr), .int (iI a2_33), .int (iI vt), .int (iI vm), .int (iI d2_34), .int (iI x2_5)]), (xw, aI g 72000 f), (xq, aI g 2000 fq), (xf, aI g 16384 fw), (xg, aI g 16384 fb), (xr, aZ g 75000 f2_42), (xo, aI g 75100 f2), (xp, aI g 25 f3)] rfl rfl ?_
                            refine v_lv [6, 7, 8, 9, 0, 10] [(0, .ref h0), (1, .int (iI y)), (2, .int (iI ba)), (3, .int (iI ab)), (4, .int (iI ((a0 + r_24) + r_32))), (5, .int (iI bk))] rfl ?_
                            exact ihL6 ((a0 + r_24) + r_32) bk a2_33 d2_34 x2_5 f2_42 f2 f3 (by omega) (by omega) (by omega) (by omega) (by omega) (by first | exact hmC | exact hi6_5) (by omega)
                      ·
                        refine v_iconst fx dX8_readTwo_179 rfl ?_
                        refine v_goto fx 184 dX8_readTwo_180 (by decide) ?_
                        refine v_aload_n fx 4 dX8_readTwo_184 rfl rfl ?_
                        refine v_get fx 3 9 inX8 k1005 dX8_readTwo_185 rfl rfl (by decide) rfl rfl rfl ?_
                        refine v_iload fx 1 dX8_readTwo_188 rfl rfl ?_
                        refine v_isub fx (vw - a0) dX8_readTwo_190 (by rfl) rfl ?_
                        refine v_iload fx 0 dX8_readTwo_191 rfl rfl ?_
                        refine v_isub fx ((vw - a0) - r_24) dX8_readTwo_193 (by rfl) rfl ?_
                        refine v_callV (As := [.int (iI 1), .int (iI ((vw - a0) - r_24))]) (rest := []) fx [3, 4, 5, 6, 7] [0, 1, 2] [(h0, ob 8 [.ref xa, .ref xb, .ref xc, .ref xd, .ref xe, .ref xf, .ref xg, .int (iI vc), .int (iI vk), .int (iI vw), .ref xm, .ref xv, .int (iI vg), .ref xw, .int (iI vb), .int (iI vi), .ref xq, .int (iI ve), .int (iI vf), .int (iI vu), .int (iI vl), .ref xr, .ref xh, .ref xo, .ref xp, .int (iI vr), .int (iI a2_25), .int (iI vt), .int (iI vm), .int (iI d2_26), .int (iI x2_5)]), (xw, aI g 72000 f), (xq, aI g 2000 fq), (xf, aI g 16384 fw), (xg, aI g 16384 fb)] [(xo, aI g 75100 f2), (xp, aI g 25 f3), (xr, aZ g 75000 f1)] 2 0 (c_X8_readRun l g h0 xa xb xc xd xe xf xg xm xv xw xq xr xh xo xp vc vk vw vg vb vi ve vf vu vl vr a2_25 vt vm d2_26 x2_5 f fq fw fb 1 ((vw - a0) - r_24) (by first | omega | decide | assumption) (by first | omega | decide | assumption) (by first | omega | decide | assumption) (by first | omega | decide | assumption) (by first | omega | decide | assumption) (by first | omega | decide | assumption) (by first | omega | decide | assumption) (by first | omega | decide | assumption) (by first | omega | decide | assumption) (by first | omega | decide | assumption)) dX8_readTwo_194 k1182 k1184 k38 k57 k1185 ykX8_readRun rfl rfl rfl rfl rfl rfl rfl rfl (nl rfl) ⟨nl rfl, nl rfl⟩ ⟨(nl rfl), (nl rfl)⟩ rfl (fun v9 w9 hu => ?_)
                        obtain ⟨r_43, a2_44, d2_45, rfl, rfl, u_46, u_47, u_48⟩ := hu
                        refine v_is (wn := [(xo, aI g 75100 f2), (xp, aI g 25 f3), (xr, aZ g 75000 f1), (h0, ob 8 [.ref xa, .ref xb, .ref xc, .ref xd, .ref xe, .ref xf, .ref xg, .int (iI vc), .int (iI vk), .int (iI vw), .ref xm, .ref xv, .int (iI vg), .ref xw, .int (iI vb), .int (iI vi), .ref xq, .int (iI ve), .int (iI vf), .int (iI vu), .int (iI vl), .ref xr, .ref xh, .ref xo, .ref xp, .int (iI vr), .int (iI a2_44), .int (iI vt), .int (iI vm), .int (iI d2_45), .int (iI x2_5)]), (xw, aI g 72000 f), (xq, aI g 2000 fq), (xf, aI g 16384 fw), (xg, aI g 16384 fb)]) (cn := 0) (sn := 0) (sn2 := [.int (iI r_43)]) rfl rfl rfl rfl ?_
                        refine v_istore fx [(10, .int (iI r_43)), (9, .int (iI r_24)), (8, .int (iI a0)), (7, .int (iI b)), (6, .int (iI q)), (0, .ref h0), (1, .int (iI y)), (2, .int (iI ba)), (3, .int (iI ab)), (4, .int (iI a0)), (5, .int (iI bk))] dX8_readTwo_197 (by decide) rfl rfl ?_
                        refine v_aload_n fx 5 dX8_readTwo_199 rfl rfl ?_
                        refine v_get fx 3 29 inX8 k1025 dX8_readTwo_200 rfl rfl (by decide) rfl rfl rfl ?_
                        refine v_if_ne fx 258 dX8_readTwo_203 (by decide) rfl (by omega) (fun h_49 => ?_) (fun h_49 => ?_)
                        ·
                          refine v_goto fx 329 dX8_readTwo_258 (by decide) ?_
                          refine v_goto fx 6 dX8_readTwo_329 (by decide) ?_
                          refine v_ws [3, 4, 5, 6, 7, 2, 0, 1] [(h0, ob 8 [.ref xa, .ref xb, .ref xc, .ref xd, .ref xe, .ref xf, .ref xg, .int (iI vc), .int (iI vk), .int (iI vw), .ref xm, .ref xv, .int (iI vg), .ref xw, .int (iI vb), .int (iI vi), .ref xq, .int (iI ve), .int (iI vf), .int (iI vu), .int (iI vl), .ref xr, .ref xh, .ref xo, .ref xp, .int (iI vr), .int (iI a2_44), .int (iI vt), .int (iI vm), .int (iI d2_45), .int (iI x2_5)]), (xw, aI g 72000 f), (xq, aI g 2000 fq), (xf, aI g 16384 fw), (xg, aI g 16384 fb), (xr, aZ g 75000 f1), (xo, aI g 75100 f2), (xp, aI g 25 f3)] rfl rfl ?_
                          refine v_lv [5, 6, 7, 8, 9, 10] [(0, .ref h0), (1, .int (iI y)), (2, .int (iI ba)), (3, .int (iI ab)), (4, .int (iI a0)), (5, .int (iI bk))] rfl ?_
                          exact ihL6 a0 bk a2_44 d2_45 x2_5 f1 f2 f3 (by omega) (by omega) (by omega) (by omega) (by omega) (by first | exact hmC | exact hi6_5) (by omega)
                        ·
                          refine v_aload_n fx 5 dX8_readTwo_206 rfl rfl ?_
                          refine v_iload_n fx 7 dX8_readTwo_207 rfl rfl ?_
                          refine v_iload fx 2 dX8_readTwo_208 rfl rfl ?_
                          refine v_iload fx 2 dX8_readTwo_210 rfl rfl ?_
                          refine v_iload fx 1 dX8_readTwo_212 rfl rfl ?_
                          refine v_iadd fx (a0 + r_24) dX8_readTwo_214 (by rfl) rfl ?_
                          refine v_iload fx 10 dX8_readTwo_215 rfl rfl ?_
                          refine v_callV (As := [.int (iI ba), .int (iI a0), .int (iI (a0 + r_24)), .int (iI bk)]) (rest := []) fx [3, 2] [0, 1, 4, 5, 6, 7] [(h0, ob 8 [.ref xa, .ref xb, .ref xc, .ref xd, .ref xe, .ref xf, .ref xg, .int (iI vc), .int (iI vk), .int (iI vw), .ref xm, .ref xv, .int (iI vg), .ref xw, .int (iI vb), .int (iI vi), .ref xq, .int (iI ve), .int (iI vf), .int (iI vu), .int (iI vl), .ref xr, .ref xh, .ref xo, .ref xp, .int (iI vr), .int (iI a2_44), .int (iI vt), .int (iI vm), .int (iI d2_45), .int (iI x2_5)]), (xr, aZ g 75000 f1)] [(xo, aI g 75100 f2), (xp, aI g 25 f3), (xw, aI g 72000 f), (xq, aI g 2000 fq), (xf, aI g 16384 fw), (xg, aI g 16384 fb)] 4 0 (c_X8_paint l g h0 xa xb xc xd xe xf xg xm xv xw xq xr xh xo xp vc vk vw vg vb vi ve vf vu vl vr a2_44 vt vm d2_45 x2_5 f1 ba a0 (a0 + r_24) bk (by first | omega | decide | assumption) (by first | omega | decide | assumption) (by first | omega | decide | assumption)) dX8_readTwo_217 k1174 k1176 k36 k57 k1177 ykX8_paint rfl rfl rfl rfl rfl rfl rfl rfl (nl rfl) ⟨nl rfl, nl rfl⟩ ⟨(nl rfl), (nl rfl)⟩ rfl (fun v9 w9 hu => ?_)
                          obtain ⟨f2_50, rfl, rfl⟩ := hu
                          refine v_is (wn := [(xo, aI g 75100 f2), (xp, aI g 25 f3), (xw, aI g 72000 f), (xq, aI g 2000 fq), (xf, aI g 16384 fw), (xg, aI g 16384 fb), (h0, ob 8 [.ref xa, .ref xb, .ref xc, .ref xd, .ref xe, .ref xf, .ref xg, .int (iI vc), .int (iI vk), .int (iI vw), .ref xm, .ref xv, .int (iI vg), .ref xw, .int (iI vb), .int (iI vi), .ref xq, .int (iI ve), .int (iI vf), .int (iI vu), .int (iI vl), .ref xr, .ref xh, .ref xo, .ref xp, .int (iI vr), .int (iI a2_44), .int (iI vt), .int (iI vm), .int (iI d2_45), .int (iI x2_5)]), (xr, aZ g 75000 f2_50)]) (cn := 0) (sn := 0) (sn2 := []) rfl rfl rfl rfl ?_
                          refine v_aload_n fx 5 dX8_readTwo_220 rfl rfl ?_
                          refine v_iload_n fx 7 dX8_readTwo_221 rfl rfl ?_
                          refine v_iload fx 2 dX8_readTwo_222 rfl rfl ?_
                          refine v_iload fx 1 dX8_readTwo_224 rfl rfl ?_
                          refine v_iadd fx (a0 + r_24) dX8_readTwo_226 (by rfl) rfl ?_
                          refine v_iload fx 2 dX8_readTwo_227 rfl rfl ?_
                          refine v_iload fx 1 dX8_readTwo_229 rfl rfl ?_
                          refine v_iadd fx (a0 + r_24) dX8_readTwo_231 (by rfl) rfl ?_
                          refine v_iload fx 0 dX8_readTwo_232 rfl rfl ?_
                          refine v_iadd fx ((a0 + r_24) + r_43) dX8_readTwo_234 (by rfl) rfl ?_
                          refine v_iload fx 10 dX8_readTwo_235 rfl rfl ?_
                          refine v_if_ne fx 244 dX8_readTwo_237 (by decide) rfl (by omega) (fun h_51 => ?_) (fun h_51 => ?_)
                          ·
                            refine v_iconst fx dX8_readTwo_244 rfl ?_
                            refine v_callV (As := [.int (iI ba), .int (iI (a0 + r_24)), .int (iI ((a0 + r_24) + r_43)), .int (iI 0)]) (rest := []) fx [6, 7] [0, 1, 2, 3, 4, 5] [(h0, ob 8 [.ref xa, .ref xb, .ref xc, .ref xd, .ref xe, .ref xf, .ref xg, .int (iI vc), .int (iI vk), .int (iI vw), .ref xm, .ref xv, .int (iI vg), .ref xw, .int (iI vb), .int (iI vi), .ref xq, .int (iI ve), .int (iI vf), .int (iI vu), .int (iI vl), .ref xr, .ref xh, .ref xo, .ref xp, .int (iI vr), .int (iI a2_44), .int (iI vt), .int (iI vm), .int (iI d2_45), .int (iI x2_5)]), (xr, aZ g 75000 f2_50)] [(xo, aI g 75100 f2), (xp, aI g 25 f3), (xw, aI g 72000 f), (xq, aI g 2000 fq), (xf, aI g 16384 fw), (xg, aI g 16384 fb)] 4 0 (c_X8_paint l g h0 xa xb xc xd xe xf xg xm xv xw xq xr xh xo xp vc vk vw vg vb vi ve vf vu vl vr a2_44 vt vm d2_45 x2_5 f2_50 ba (a0 + r_24) ((a0 + r_24) + r_43) 0 (by first | omega | decide | assumption) (by first | omega | decide | assumption) (by first | omega | decide | assumption)) dX8_readTwo_245 k1174 k1176 k36 k57 k1177 ykX8_paint rfl rfl rfl rfl rfl rfl rfl rfl (nl rfl) ⟨nl rfl, nl rfl⟩ ⟨(nl rfl), (nl rfl)⟩ rfl (fun v9 w9 hu => ?_)
                            obtain ⟨f2_52, rfl, rfl⟩ := hu
                            refine v_is (wn := [(xo, aI g 75100 f2), (xp, aI g 25 f3), (xw, aI g 72000 f), (xq, aI g 2000 fq), (xf, aI g 16384 fw), (xg, aI g 16384 fb), (h0, ob 8 [.ref xa, .ref xb, .ref xc, .ref xd, .ref xe, .ref xf, .ref xg, .int (iI vc), .int (iI vk), .int (iI vw), .ref xm, .ref xv, .int (iI vg), .ref xw, .int (iI vb), .int (iI vi), .ref xq, .int (iI ve), .int (iI vf), .int (iI vu), .int (iI vl), .ref xr, .ref xh, .ref xo, .ref xp, .int (iI vr), .int (iI a2_44), .int (iI vt), .int (iI vm), .int (iI d2_45), .int (iI x2_5)]), (xr, aZ g 75000 f2_52)]) (cn := 0) (sn := 0) (sn2 := []) rfl rfl rfl rfl ?_
                            refine v_iload fx 2 dX8_readTwo_248 rfl rfl ?_
                            refine v_iload fx 1 dX8_readTwo_250 rfl rfl ?_
                            refine v_iadd fx (a0 + r_24) dX8_readTwo_252 (by rfl) rfl ?_
                            refine v_iload fx 0 dX8_readTwo_253 rfl rfl ?_
                            refine v_iadd fx ((a0 + r_24) + r_43) dX8_readTwo_255 (by rfl) rfl ?_
                            refine v_istore fx [(4, .int (iI ((a0 + r_24) + r_43))), (10, .int (iI r_43)), (9, .int (iI r_24)), (8, .int (iI a0)), (7, .int (iI b)), (6, .int (iI q)), (0, .ref h0), (1, .int (iI y)), (2, .int (iI ba)), (3, .int (iI ab)), (5, .int (iI bk))] dX8_readTwo_256 (by decide) rfl rfl ?_
                            refine v_goto fx 329 dX8_readTwo_258 (by decide) ?_
                            refine v_goto fx 6 dX8_readTwo_329 (by decide) ?_
                            refine v_ws [6, 2, 3, 4, 5, 7, 0, 1] [(h0, ob 8 [.ref xa, .ref xb, .ref xc, .ref xd, .ref xe, .ref xf, .ref xg, .int (iI vc), .int (iI vk), .int (iI vw), .ref xm, .ref xv, .int (iI vg), .ref xw, .int (iI vb), .int (iI vi), .ref xq, .int (iI ve), .int (iI vf), .int (iI vu), .int (iI vl), .ref xr, .ref xh, .ref xo, .ref xp, .int (iI vr), .int (iI a2_44), .int (iI vt), .int (iI vm), .int (iI d2_45), .int (iI x2_5)]), (xw, aI g 72000 f), (xq, aI g 2000 fq), (xf, aI g 16384 fw), (xg, aI g 16384 fb), (xr, aZ g 75000 f2_52), (xo, aI g 75100 f2), (xp, aI g 25 f3)] rfl rfl ?_
                            refine v_lv [6, 7, 8, 9, 0, 10] [(0, .ref h0), (1, .int (iI y)), (2, .int (iI ba)), (3, .int (iI ab)), (4, .int (iI ((a0 + r_24) + r_43))), (5, .int (iI bk))] rfl ?_
                            exact ihL6 ((a0 + r_24) + r_43) bk a2_44 d2_45 x2_5 f2_52 f2 f3 (by omega) (by omega) (by omega) (by omega) (by omega) (by first | exact hmC | exact hi6_5) (by omega)
                          ·
                            refine v_iconst fx dX8_readTwo_240 rfl ?_
                            refine v_goto fx 245 dX8_readTwo_241 (by decide) ?_
                            refine v_callV (As := [.int (iI ba), .int (iI (a0 + r_24)), .int (iI ((a0 + r_24) + r_43)), .int (iI 1)]) (rest := []) fx [6, 7] [0, 1, 2, 3, 4, 5] [(h0, ob 8 [.ref xa, .ref xb, .ref xc, .ref xd, .ref xe, .ref xf, .ref xg, .int (iI vc), .int (iI vk), .int (iI vw), .ref xm, .ref xv, .int (iI vg), .ref xw, .int (iI vb), .int (iI vi), .ref xq, .int (iI ve), .int (iI vf), .int (iI vu), .int (iI vl), .ref xr, .ref xh, .ref xo, .ref xp, .int (iI vr), .int (iI a2_44), .int (iI vt), .int (iI vm), .int (iI d2_45), .int (iI x2_5)]), (xr, aZ g 75000 f2_50)] [(xo, aI g 75100 f2), (xp, aI g 25 f3), (xw, aI g 72000 f), (xq, aI g 2000 fq), (xf, aI g 16384 fw), (xg, aI g 16384 fb)] 4 0 (c_X8_paint l g h0 xa xb xc xd xe xf xg xm xv xw xq xr xh xo xp vc vk vw vg vb vi ve vf vu vl vr a2_44 vt vm d2_45 x2_5 f2_50 ba (a0 + r_24) ((a0 + r_24) + r_43) 1 (by first | omega | decide | assumption) (by first | omega | decide | assumption) (by first | omega | decide | assumption)) dX8_readTwo_245 k1174 k1176 k36 k57 k1177 ykX8_paint rfl rfl rfl rfl rfl rfl rfl rfl (nl rfl) ⟨nl rfl, nl rfl⟩ ⟨(nl rfl), (nl rfl)⟩ rfl (fun v9 w9 hu => ?_)
                            obtain ⟨f2_53, rfl, rfl⟩ := hu
                            refine v_is (wn := [(xo, aI g 75100 f2), (xp, aI g 25 f3), (xw, aI g 72000 f), (xq, aI g 2000 fq), (xf, aI g 16384 fw), (xg, aI g 16384 fb), (h0, ob 8 [.ref xa, .ref xb, .ref xc, .ref xd, .ref xe, .ref xf, .ref xg, .int (iI vc), .int (iI vk), .int (iI vw), .ref xm, .ref xv, .int (iI vg), .ref xw, .int (iI vb), .int (iI vi), .ref xq, .int (iI ve), .int (iI vf), .int (iI vu), .int (iI vl), .ref xr, .ref xh, .ref xo, .ref xp, .int (iI vr), .int (iI a2_44), .int (iI vt), .int (iI vm), .int (iI d2_45), .int (iI x2_5)]), (xr, aZ g 75000 f2_53)]) (cn := 0) (sn := 0) (sn2 := []) rfl rfl rfl rfl ?_
                            refine v_iload fx 2 dX8_readTwo_248 rfl rfl ?_
                            refine v_iload fx 1 dX8_readTwo_250 rfl rfl ?_
                            refine v_iadd fx (a0 + r_24) dX8_readTwo_252 (by rfl) rfl ?_
                            refine v_iload fx 0 dX8_readTwo_253 rfl rfl ?_
                            refine v_iadd fx ((a0 + r_24) + r_43) dX8_readTwo_255 (by rfl) rfl ?_
                            refine v_istore fx [(4, .int (iI ((a0 + r_24) + r_43))), (10, .int (iI r_43)), (9, .int (iI r_24)), (8, .int (iI a0)), (7, .int (iI b)), (6, .int (iI q)), (0, .ref h0), (1, .int (iI y)), (2, .int (iI ba)), (3, .int (iI ab)), (5, .int (iI bk))] dX8_readTwo_256 (by decide) rfl rfl ?_
                            refine v_goto fx 329 dX8_readTwo_258 (by decide) ?_
                            refine v_goto fx 6 dX8_readTwo_329 (by decide) ?_
                            refine v_ws [6, 2, 3, 4, 5, 7, 0, 1] [(h0, ob 8 [.ref xa, .ref xb, .ref xc, .ref xd, .ref xe, .ref xf, .ref xg, .int (iI vc), .int (iI vk), .int (iI vw), .ref xm, .ref xv, .int (iI vg), .ref xw, .int (iI vb), .int (iI vi), .ref xq, .int (iI ve), .int (iI vf), .int (iI vu), .int (iI vl), .ref xr, .ref xh, .ref xo, .ref xp, .int (iI vr), .int (iI a2_44), .int (iI vt), .int (iI vm), .int (iI d2_45), .int (iI x2_5)]), (xw, aI g 72000 f), (xq, aI g 2000 fq), (xf, aI g 16384 fw), (xg, aI g 16384 fb), (xr, aZ g 75000 f2_53), (xo, aI g 75100 f2), (xp, aI g 25 f3)] rfl rfl ?_
                            refine v_lv [6, 7, 8, 9, 0, 10] [(0, .ref h0), (1, .int (iI y)), (2, .int (iI ba)), (3, .int (iI ab)), (4, .int (iI ((a0 + r_24) + r_43))), (5, .int (iI bk))] rfl ?_
                            exact ihL6 ((a0 + r_24) + r_43) bk a2_44 d2_45 x2_5 f2_53 f2 f3 (by omega) (by omega) (by omega) (by omega) (by omega) (by first | exact hmC | exact hi6_5) (by omega)
                    ·
                      refine v_iconst fx dX8_readTwo_169 rfl ?_
                      refine v_goto fx 197 dX8_readTwo_170 (by decide) ?_
                      refine v_istore fx [(10, .int (iI 0)), (9, .int (iI r_24)), (8, .int (iI a0)), (7, .int (iI b)), (6, .int (iI q)), (0, .ref h0), (1, .int (iI y)), (2, .int (iI ba)), (3, .int (iI ab)), (4, .int (iI a0)), (5, .int (iI bk))] dX8_readTwo_197 (by decide) rfl rfl ?_
                      refine v_aload_n fx 5 dX8_readTwo_199 rfl rfl ?_
                      refine v_get fx 3 29 inX8 k1025 dX8_readTwo_200 rfl rfl (by decide) rfl rfl rfl ?_
                      refine v_if_ne fx 258 dX8_readTwo_203 (by decide) rfl (by omega) (fun h_54 => ?_) (fun h_54 => ?_)
                      ·
                        refine v_goto fx 329 dX8_readTwo_258 (by decide) ?_
                        refine v_goto fx 6 dX8_readTwo_329 (by decide) ?_
                        refine v_ws [3, 4, 5, 6, 7, 2, 0, 1] [(h0, ob 8 [.ref xa, .ref xb, .ref xc, .ref xd, .ref xe, .ref xf, .ref xg, .int (iI vc), .int (iI vk), .int (iI vw), .ref xm, .ref xv, .int (iI vg), .ref xw, .int (iI vb), .int (iI vi), .ref xq, .int (iI ve), .int (iI vf), .int (iI vu), .int (iI vl), .ref xr, .ref xh, .ref xo, .ref xp, .int (iI vr), .int (iI a2_25), .int (iI vt), .int (iI vm), .int (iI d2_26), .int (iI x2_5)]), (xw, aI g 72000 f), (xq, aI g 2000 fq), (xf, aI g 16384 fw), (xg, aI g 16384 fb), (xr, aZ g 75000 f1), (xo, aI g 75100 f2), (xp, aI g 25 f3)] rfl rfl ?_
                        refine v_lv [5, 6, 7, 8, 9, 10] [(0, .ref h0), (1, .int (iI y)), (2, .int (iI ba)), (3, .int (iI ab)), (4, .int (iI a0)), (5, .int (iI bk))] rfl ?_
                        exact ihL6 a0 bk a2_25 d2_26 x2_5 f1 f2 f3 (by omega) (by omega) (by omega) (by omega) (by omega) (by first | exact hmC | exact hi6_5) (by omega)
                      ·
                        refine v_aload_n fx 5 dX8_readTwo_206 rfl rfl ?_
                        refine v_iload_n fx 7 dX8_readTwo_207 rfl rfl ?_
                        refine v_iload fx 2 dX8_readTwo_208 rfl rfl ?_
                        refine v_iload fx 2 dX8_readTwo_210 rfl rfl ?_
                        refine v_iload fx 1 dX8_readTwo_212 rfl rfl ?_
                        refine v_iadd fx (a0 + r_24) dX8_readTwo_214 (by rfl) rfl ?_
                        refine v_iload fx 10 dX8_readTwo_215 rfl rfl ?_
                        refine v_callV (As := [.int (iI ba), .int (iI a0), .int (iI (a0 + r_24)), .int (iI bk)]) (rest := []) fx [3, 2] [0, 1, 4, 5, 6, 7] [(h0, ob 8 [.ref xa, .ref xb, .ref xc, .ref xd, .ref xe, .ref xf, .ref xg, .int (iI vc), .int (iI vk), .int (iI vw), .ref xm, .ref xv, .int (iI vg), .ref xw, .int (iI vb), .int (iI vi), .ref xq, .int (iI ve), .int (iI vf), .int (iI vu), .int (iI vl), .ref xr, .ref xh, .ref xo, .ref xp, .int (iI vr), .int (iI a2_25), .int (iI vt), .int (iI vm), .int (iI d2_26), .int (iI x2_5)]), (xr, aZ g 75000 f1)] [(xo, aI g 75100 f2), (xp, aI g 25 f3), (xw, aI g 72000 f), (xq, aI g 2000 fq), (xf, aI g 16384 fw), (xg, aI g 16384 fb)] 4 0 (c_X8_paint l g h0 xa xb xc xd xe xf xg xm xv xw xq xr xh xo xp vc vk vw vg vb vi ve vf vu vl vr a2_25 vt vm d2_26 x2_5 f1 ba a0 (a0 + r_24) bk (by first | omega | decide | assumption) (by first | omega | decide | assumption) (by first | omega | decide | assumption)) dX8_readTwo_217 k1174 k1176 k36 k57 k1177 ykX8_paint rfl rfl rfl rfl rfl rfl rfl rfl (nl rfl) ⟨nl rfl, nl rfl⟩ ⟨(nl rfl), (nl rfl)⟩ rfl (fun v9 w9 hu => ?_)
                        obtain ⟨f2_55, rfl, rfl⟩ := hu
                        refine v_is (wn := [(xo, aI g 75100 f2), (xp, aI g 25 f3), (xw, aI g 72000 f), (xq, aI g 2000 fq), (xf, aI g 16384 fw), (xg, aI g 16384 fb), (h0, ob 8 [.ref xa, .ref xb, .ref xc, .ref xd, .ref xe, .ref xf, .ref xg, .int (iI vc), .int (iI vk), .int (iI vw), .ref xm, .ref xv, .int (iI vg), .ref xw, .int (iI vb), .int (iI vi), .ref xq, .int (iI ve), .int (iI vf), .int (iI vu), .int (iI vl), .ref xr, .ref xh, .ref xo, .ref xp, .int (iI vr), .int (iI a2_25), .int (iI vt), .int (iI vm), .int (iI d2_26), .int (iI x2_5)]), (xr, aZ g 75000 f2_55)]) (cn := 0) (sn := 0) (sn2 := []) rfl rfl rfl rfl ?_
                        refine v_aload_n fx 5 dX8_readTwo_220 rfl rfl ?_
                        refine v_iload_n fx 7 dX8_readTwo_221 rfl rfl ?_
                        refine v_iload fx 2 dX8_readTwo_222 rfl rfl ?_
                        refine v_iload fx 1 dX8_readTwo_224 rfl rfl ?_
                        refine v_iadd fx (a0 + r_24) dX8_readTwo_226 (by rfl) rfl ?_
                        refine v_iload fx 2 dX8_readTwo_227 rfl rfl ?_
                        refine v_iload fx 1 dX8_readTwo_229 rfl rfl ?_
                        refine v_iadd fx (a0 + r_24) dX8_readTwo_231 (by rfl) rfl ?_
                        refine v_iload fx 0 dX8_readTwo_232 rfl rfl ?_
                        refine v_iadd fx ((a0 + r_24) + 0) dX8_readTwo_234 (by rfl) rfl ?_
                        refine v_iload fx 10 dX8_readTwo_235 rfl rfl ?_
                        refine v_if_ne fx 244 dX8_readTwo_237 (by decide) rfl (by omega) (fun h_56 => ?_) (fun h_56 => ?_)
                        ·
                          refine v_iconst fx dX8_readTwo_244 rfl ?_
                          refine v_callV (As := [.int (iI ba), .int (iI (a0 + r_24)), .int (iI ((a0 + r_24) + 0)), .int (iI 0)]) (rest := []) fx [6, 7] [0, 1, 2, 3, 4, 5] [(h0, ob 8 [.ref xa, .ref xb, .ref xc, .ref xd, .ref xe, .ref xf, .ref xg, .int (iI vc), .int (iI vk), .int (iI vw), .ref xm, .ref xv, .int (iI vg), .ref xw, .int (iI vb), .int (iI vi), .ref xq, .int (iI ve), .int (iI vf), .int (iI vu), .int (iI vl), .ref xr, .ref xh, .ref xo, .ref xp, .int (iI vr), .int (iI a2_25), .int (iI vt), .int (iI vm), .int (iI d2_26), .int (iI x2_5)]), (xr, aZ g 75000 f2_55)] [(xo, aI g 75100 f2), (xp, aI g 25 f3), (xw, aI g 72000 f), (xq, aI g 2000 fq), (xf, aI g 16384 fw), (xg, aI g 16384 fb)] 4 0 (c_X8_paint l g h0 xa xb xc xd xe xf xg xm xv xw xq xr xh xo xp vc vk vw vg vb vi ve vf vu vl vr a2_25 vt vm d2_26 x2_5 f2_55 ba (a0 + r_24) ((a0 + r_24) + 0) 0 (by first | omega | decide | assumption) (by first | omega | decide | assumption) (by first | omega | decide | assumption)) dX8_readTwo_245 k1174 k1176 k36 k57 k1177 ykX8_paint rfl rfl rfl rfl rfl rfl rfl rfl (nl rfl) ⟨nl rfl, nl rfl⟩ ⟨(nl rfl), (nl rfl)⟩ rfl (fun v9 w9 hu => ?_)
                          obtain ⟨f2_57, rfl, rfl⟩ := hu
                          refine v_is (wn := [(xo, aI g 75100 f2), (xp, aI g 25 f3), (xw, aI g 72000 f), (xq, aI g 2000 fq), (xf, aI g 16384 fw), (xg, aI g 16384 fb), (h0, ob 8 [.ref xa, .ref xb, .ref xc, .ref xd, .ref xe, .ref xf, .ref xg, .int (iI vc), .int (iI vk), .int (iI vw), .ref xm, .ref xv, .int (iI vg), .ref xw, .int (iI vb), .int (iI vi), .ref xq, .int (iI ve), .int (iI vf), .int (iI vu), .int (iI vl), .ref xr, .ref xh, .ref xo, .ref xp, .int (iI vr), .int (iI a2_25), .int (iI vt), .int (iI vm), .int (iI d2_26), .int (iI x2_5)]), (xr, aZ g 75000 f2_57)]) (cn := 0) (sn := 0) (sn2 := []) rfl rfl rfl rfl ?_
                          refine v_iload fx 2 dX8_readTwo_248 rfl rfl ?_
                          refine v_iload fx 1 dX8_readTwo_250 rfl rfl ?_
                          refine v_iadd fx (a0 + r_24) dX8_readTwo_252 (by rfl) rfl ?_
                          refine v_iload fx 0 dX8_readTwo_253 rfl rfl ?_
                          refine v_iadd fx ((a0 + r_24) + 0) dX8_readTwo_255 (by rfl) rfl ?_
                          refine v_istore fx [(4, .int (iI ((a0 + r_24) + 0))), (10, .int (iI 0)), (9, .int (iI r_24)), (8, .int (iI a0)), (7, .int (iI b)), (6, .int (iI q)), (0, .ref h0), (1, .int (iI y)), (2, .int (iI ba)), (3, .int (iI ab)), (5, .int (iI bk))] dX8_readTwo_256 (by decide) rfl rfl ?_
                          refine v_goto fx 329 dX8_readTwo_258 (by decide) ?_
                          refine v_goto fx 6 dX8_readTwo_329 (by decide) ?_
                          refine v_ws [6, 2, 3, 4, 5, 7, 0, 1] [(h0, ob 8 [.ref xa, .ref xb, .ref xc, .ref xd, .ref xe, .ref xf, .ref xg, .int (iI vc), .int (iI vk), .int (iI vw), .ref xm, .ref xv, .int (iI vg), .ref xw, .int (iI vb), .int (iI vi), .ref xq, .int (iI ve), .int (iI vf), .int (iI vu), .int (iI vl), .ref xr, .ref xh, .ref xo, .ref xp, .int (iI vr), .int (iI a2_25), .int (iI vt), .int (iI vm), .int (iI d2_26), .int (iI x2_5)]), (xw, aI g 72000 f), (xq, aI g 2000 fq), (xf, aI g 16384 fw), (xg, aI g 16384 fb), (xr, aZ g 75000 f2_57), (xo, aI g 75100 f2), (xp, aI g 25 f3)] rfl rfl ?_
                          refine v_lv [6, 7, 8, 9, 0, 10] [(0, .ref h0), (1, .int (iI y)), (2, .int (iI ba)), (3, .int (iI ab)), (4, .int (iI ((a0 + r_24) + 0))), (5, .int (iI bk))] rfl ?_
                          exact ihL6 ((a0 + r_24) + 0) bk a2_25 d2_26 x2_5 f2_57 f2 f3 (by omega) (by omega) (by omega) (by omega) (by omega) (by first | exact hmC | exact hi6_5) (by omega)
                        ·
                          refine v_iconst fx dX8_readTwo_240 rfl ?_
                          refine v_goto fx 245 dX8_readTwo_241 (by decide) ?_
                          refine v_callV (As := [.int (iI ba), .int (iI (a0 + r_24)), .int (iI ((a0 + r_24) + 0)), .int (iI 1)]) (rest := []) fx [6, 7] [0, 1, 2, 3, 4, 5] [(h0, ob 8 [.ref xa, .ref xb, .ref xc, .ref xd, .ref xe, .ref xf, .ref xg, .int (iI vc), .int (iI vk), .int (iI vw), .ref xm, .ref xv, .int (iI vg), .ref xw, .int (iI vb), .int (iI vi), .ref xq, .int (iI ve), .int (iI vf), .int (iI vu), .int (iI vl), .ref xr, .ref xh, .ref xo, .ref xp, .int (iI vr), .int (iI a2_25), .int (iI vt), .int (iI vm), .int (iI d2_26), .int (iI x2_5)]), (xr, aZ g 75000 f2_55)] [(xo, aI g 75100 f2), (xp, aI g 25 f3), (xw, aI g 72000 f), (xq, aI g 2000 fq), (xf, aI g 16384 fw), (xg, aI g 16384 fb)] 4 0 (c_X8_paint l g h0 xa xb xc xd xe xf xg xm xv xw xq xr xh xo xp vc vk vw vg vb vi ve vf vu vl vr a2_25 vt vm d2_26 x2_5 f2_55 ba (a0 + r_24) ((a0 + r_24) + 0) 1 (by first | omega | decide | assumption) (by first | omega | decide | assumption) (by first | omega | decide | assumption)) dX8_readTwo_245 k1174 k1176 k36 k57 k1177 ykX8_paint rfl rfl rfl rfl rfl rfl rfl rfl (nl rfl) ⟨nl rfl, nl rfl⟩ ⟨(nl rfl), (nl rfl)⟩ rfl (fun v9 w9 hu => ?_)
                          obtain ⟨f2_58, rfl, rfl⟩ := hu
                          refine v_is (wn := [(xo, aI g 75100 f2), (xp, aI g 25 f3), (xw, aI g 72000 f), (xq, aI g 2000 fq), (xf, aI g 16384 fw), (xg, aI g 16384 fb), (h0, ob 8 [.ref xa, .ref xb, .ref xc, .ref xd, .ref xe, .ref xf, .ref xg, .int (iI vc), .int (iI vk), .int (iI vw), .ref xm, .ref xv, .int (iI vg), .ref xw, .int (iI vb), .int (iI vi), .ref xq, .int (iI ve), .int (iI vf), .int (iI vu), .int (iI vl), .ref xr, .ref xh, .ref xo, .ref xp, .int (iI vr), .int (iI a2_25), .int (iI vt), .int (iI vm), .int (iI d2_26), .int (iI x2_5)]), (xr, aZ g 75000 f2_58)]) (cn := 0) (sn := 0) (sn2 := []) rfl rfl rfl rfl ?_
                          refine v_iload fx 2 dX8_readTwo_248 rfl rfl ?_
                          refine v_iload fx 1 dX8_readTwo_250 rfl rfl ?_
                          refine v_iadd fx (a0 + r_24) dX8_readTwo_252 (by rfl) rfl ?_
                          refine v_iload fx 0 dX8_readTwo_253 rfl rfl ?_
                          refine v_iadd fx ((a0 + r_24) + 0) dX8_readTwo_255 (by rfl) rfl ?_
                          refine v_istore fx [(4, .int (iI ((a0 + r_24) + 0))), (10, .int (iI 0)), (9, .int (iI r_24)), (8, .int (iI a0)), (7, .int (iI b)), (6, .int (iI q)), (0, .ref h0), (1, .int (iI y)), (2, .int (iI ba)), (3, .int (iI ab)), (5, .int (iI bk))] dX8_readTwo_256 (by decide) rfl rfl ?_
                          refine v_goto fx 329 dX8_readTwo_258 (by decide) ?_
                          refine v_goto fx 6 dX8_readTwo_329 (by decide) ?_
                          refine v_ws [6, 2, 3, 4, 5, 7, 0, 1] [(h0, ob 8 [.ref xa, .ref xb, .ref xc, .ref xd, .ref xe, .ref xf, .ref xg, .int (iI vc), .int (iI vk), .int (iI vw), .ref xm, .ref xv, .int (iI vg), .ref xw, .int (iI vb), .int (iI vi), .ref xq, .int (iI ve), .int (iI vf), .int (iI vu), .int (iI vl), .ref xr, .ref xh, .ref xo, .ref xp, .int (iI vr), .int (iI a2_25), .int (iI vt), .int (iI vm), .int (iI d2_26), .int (iI x2_5)]), (xw, aI g 72000 f), (xq, aI g 2000 fq), (xf, aI g 16384 fw), (xg, aI g 16384 fb), (xr, aZ g 75000 f2_58), (xo, aI g 75100 f2), (xp, aI g 25 f3)] rfl rfl ?_
                          refine v_lv [6, 7, 8, 9, 0, 10] [(0, .ref h0), (1, .int (iI y)), (2, .int (iI ba)), (3, .int (iI ab)), (4, .int (iI ((a0 + r_24) + 0))), (5, .int (iI bk))] rfl ?_
                          exact ihL6 ((a0 + r_24) + 0) bk a2_25 d2_26 x2_5 f2_58 f2 f3 (by omega) (by omega) (by omega) (by omega) (by omega) (by first | exact hmC | exact hi6_5) (by omega)
                  ·
                    refine v_iconst fx dX8_readTwo_139 rfl ?_
                    refine v_goto fx 145 dX8_readTwo_140 (by decide) ?_
                    refine v_istore fx [(8, .int (iI 0)), (7, .int (iI b)), (6, .int (iI q)), (0, .ref h0), (1, .int (iI y)), (2, .int (iI ba)), (3, .int (iI ab)), (4, .int (iI a0)), (5, .int (iI bk))] dX8_readTwo_145 (by decide) rfl rfl ?_
                    refine v_aload_n fx 3 dX8_readTwo_147 rfl rfl ?_
                    refine v_iload fx 8 dX8_readTwo_148 rfl rfl ?_
                    refine v_aload_n fx 3 dX8_readTwo_150 rfl rfl ?_
                    refine v_get fx 6 9 inX8 k1005 dX8_readTwo_151 rfl rfl (by decide) rfl rfl rfl ?_
                    refine v_iload fx 0 dX8_readTwo_154 rfl rfl ?_
                    refine v_isub fx (vw - 0) dX8_readTwo_156 (by rfl) rfl ?_
                    refine v_callV (As := [.int (iI bk), .int (iI (vw - 0))]) (rest := []) fx [6, 4, 5, 0, 1] [2, 3, 7] [(h0, ob 8 [.ref xa, .ref xb, .ref xc, .ref xd, .ref xe, .ref xf, .ref xg, .int (iI vc), .int (iI vk), .int (iI vw), .ref xm, .ref xv, .int (iI vg), .ref xw, .int (iI vb), .int (iI vi), .ref xq, .int (iI ve), .int (iI vf), .int (iI vu), .int (iI vl), .ref xr, .ref xh, .ref xo, .ref xp, .int (iI vr), .int (iI a2_3), .int (iI vt), .int (iI vm), .int (iI d2_4), .int (iI x2_5)]), (xw, aI g 72000 f), (xq, aI g 2000 fq), (xf, aI g 16384 fw), (xg, aI g 16384 fb)] [(xo, aI g 75100 f2), (xp, aI g 25 f3), (xr, aZ g 75000 f1)] 2 0 (c_X8_readRun l g h0 xa xb xc xd xe xf xg xm xv xw xq xr xh xo xp vc vk vw vg vb vi ve vf vu vl vr a2_3 vt vm d2_4 x2_5 f fq fw fb bk (vw - 0) (by first | omega | decide | assumption) (by first | omega | decide | assumption) (by first | omega | decide | assumption) (by first | omega | decide | assumption) (by first | omega | decide | assumption) (by first | omega | decide | assumption) (by first | omega | decide | assumption) (by first | omega | decide | assumption) (by first | omega | decide | assumption) (by first | omega | decide | assumption)) dX8_readTwo_157 k1182 k1184 k38 k57 k1185 ykX8_readRun rfl rfl rfl rfl rfl rfl rfl rfl (nl rfl) ⟨nl rfl, nl rfl⟩ ⟨(nl rfl), (nl rfl)⟩ rfl (fun v9 w9 hu => ?_)
                    obtain ⟨r_59, a2_60, d2_61, rfl, rfl, u_62, u_63, u_64⟩ := hu
                    refine v_is (wn := [(xo, aI g 75100 f2), (xp, aI g 25 f3), (xr, aZ g 75000 f1), (h0, ob 8 [.ref xa, .ref xb, .ref xc, .ref xd, .ref xe, .ref xf, .ref xg, .int (iI vc), .int (iI vk), .int (iI vw), .ref xm, .ref xv, .int (iI vg), .ref xw, .int (iI vb), .int (iI vi), .ref xq, .int (iI ve), .int (iI vf), .int (iI vu), .int (iI vl), .ref xr, .ref xh, .ref xo, .ref xp, .int (iI vr), .int (iI a2_60), .int (iI vt), .int (iI vm), .int (iI d2_61), .int (iI x2_5)]), (xw, aI g 72000 f), (xq, aI g 2000 fq), (xf, aI g 16384 fw), (xg, aI g 16384 fb)]) (cn := 0) (sn := 0) (sn2 := [.int (iI r_59)]) rfl rfl rfl rfl ?_
                    refine v_istore fx [(9, .int (iI r_59)), (8, .int (iI 0)), (7, .int (iI b)), (6, .int (iI q)), (0, .ref h0), (1, .int (iI y)), (2, .int (iI ba)), (3, .int (iI ab)), (4, .int (iI a0)), (5, .int (iI bk))] dX8_readTwo_160 (by decide) rfl rfl ?_
                    refine v_aload_n fx 4 dX8_readTwo_162 rfl rfl ?_
                    refine v_get fx 3 29 inX8 k1025 dX8_readTwo_163 rfl rfl (by decide) rfl rfl rfl ?_
                    refine v_if_eq fx 173 dX8_readTwo_166 (by decide) rfl (by omega) (fun h_65 => ?_) (fun h_65 => ?_)
                    ·
                      refine v_aload_n fx 4 dX8_readTwo_173 rfl rfl ?_
                      refine v_iload fx 9 dX8_readTwo_174 rfl rfl ?_
                      refine v_if_ne fx 183 dX8_readTwo_176 (by decide) rfl (by omega) (fun h_66 => ?_) (fun h_66 => ?_)
                      ·
                        refine v_iconst fx dX8_readTwo_183 rfl ?_
                        refine v_aload_n fx 4 dX8_readTwo_184 rfl rfl ?_
                        refine v_get fx 3 9 inX8 k1005 dX8_readTwo_185 rfl rfl (by decide) rfl rfl rfl ?_
                        refine v_iload fx 1 dX8_readTwo_188 rfl rfl ?_
                        refine v_isub fx (vw - 0) dX8_readTwo_190 (by rfl) rfl ?_
                        refine v_iload fx 0 dX8_readTwo_191 rfl rfl ?_
                        refine v_isub fx ((vw - 0) - r_59) dX8_readTwo_193 (by rfl) rfl ?_
                        refine v_callV (As := [.int (iI 0), .int (iI ((vw - 0) - r_59))]) (rest := []) fx [3, 4, 5, 6, 7] [0, 1, 2] [(h0, ob 8 [.ref xa, .ref xb, .ref xc, .ref xd, .ref xe, .ref xf, .ref xg, .int (iI vc), .int (iI vk), .int (iI vw), .ref xm, .ref xv, .int (iI vg), .ref xw, .int (iI vb), .int (iI vi), .ref xq, .int (iI ve), .int (iI vf), .int (iI vu), .int (iI vl), .ref xr, .ref xh, .ref xo, .ref xp, .int (iI vr), .int (iI a2_60), .int (iI vt), .int (iI vm), .int (iI d2_61), .int (iI x2_5)]), (xw, aI g 72000 f), (xq, aI g 2000 fq), (xf, aI g 16384 fw), (xg, aI g 16384 fb)] [(xo, aI g 75100 f2), (xp, aI g 25 f3), (xr, aZ g 75000 f1)] 2 0 (c_X8_readRun l g h0 xa xb xc xd xe xf xg xm xv xw xq xr xh xo xp vc vk vw vg vb vi ve vf vu vl vr a2_60 vt vm d2_61 x2_5 f fq fw fb 0 ((vw - 0) - r_59) (by first | omega | decide | assumption) (by first | omega | decide | assumption) (by first | omega | decide | assumption) (by first | omega | decide | assumption) (by first | omega | decide | assumption) (by first | omega | decide | assumption) (by first | omega | decide | assumption) (by first | omega | decide | assumption) (by first | omega | decide | assumption) (by first | omega | decide | assumption)) dX8_readTwo_194 k1182 k1184 k38 k57 k1185 ykX8_readRun rfl rfl rfl rfl rfl rfl rfl rfl (nl rfl) ⟨nl rfl, nl rfl⟩ ⟨(nl rfl), (nl rfl)⟩ rfl (fun v9 w9 hu => ?_)
                        obtain ⟨r_67, a2_68, d2_69, rfl, rfl, u_70, u_71, u_72⟩ := hu
                        refine v_is (wn := [(xo, aI g 75100 f2), (xp, aI g 25 f3), (xr, aZ g 75000 f1), (h0, ob 8 [.ref xa, .ref xb, .ref xc, .ref xd, .ref xe, .ref xf, .ref xg, .int (iI vc), .int (iI vk), .int (iI vw), .ref xm, .ref xv, .int (iI vg), .ref xw, .int (iI vb), .int (iI vi), .ref xq, .int (iI ve), .int (iI vf), .int (iI vu), .int (iI vl), .ref xr, .ref xh, .ref xo, .ref xp, .int (iI vr), .int (iI a2_68), .int (iI vt), .int (iI vm), .int (iI d2_69), .int (iI x2_5)]), (xw, aI g 72000 f), (xq, aI g 2000 fq), (xf, aI g 16384 fw), (xg, aI g 16384 fb)]) (cn := 0) (sn := 0) (sn2 := [.int (iI r_67)]) rfl rfl rfl rfl ?_
                        refine v_istore fx [(10, .int (iI r_67)), (9, .int (iI r_59)), (8, .int (iI 0)), (7, .int (iI b)), (6, .int (iI q)), (0, .ref h0), (1, .int (iI y)), (2, .int (iI ba)), (3, .int (iI ab)), (4, .int (iI a0)), (5, .int (iI bk))] dX8_readTwo_197 (by decide) rfl rfl ?_
                        refine v_aload_n fx 5 dX8_readTwo_199 rfl rfl ?_
                        refine v_get fx 3 29 inX8 k1025 dX8_readTwo_200 rfl rfl (by decide) rfl rfl rfl ?_
                        refine v_if_ne fx 258 dX8_readTwo_203 (by decide) rfl (by omega) (fun h_73 => ?_) (fun h_73 => ?_)
                        ·
                          refine v_goto fx 329 dX8_readTwo_258 (by decide) ?_
                          refine v_goto fx 6 dX8_readTwo_329 (by decide) ?_
                          refine v_ws [3, 4, 5, 6, 7, 2, 0, 1] [(h0, ob 8 [.ref xa, .ref xb, .ref xc, .ref xd, .ref xe, .ref xf, .ref xg, .int (iI vc), .int (iI vk), .int (iI vw), .ref xm, .ref xv, .int (iI vg), .ref xw, .int (iI vb), .int (iI vi), .ref xq, .int (iI ve), .int (iI vf), .int (iI vu), .int (iI vl), .ref xr, .ref xh, .ref xo, .ref xp, .int (iI vr), .int (iI a2_68), .int (iI vt), .int (iI vm), .int (iI d2_69), .int (iI x2_5)]), (xw, aI g 72000 f), (xq, aI g 2000 fq), (xf, aI g 16384 fw), (xg, aI g 16384 fb), (xr, aZ g 75000 f1), (xo, aI g 75100 f2), (xp, aI g 25 f3)] rfl rfl ?_
                          refine v_lv [5, 6, 7, 8, 9, 10] [(0, .ref h0), (1, .int (iI y)), (2, .int (iI ba)), (3, .int (iI ab)), (4, .int (iI a0)), (5, .int (iI bk))] rfl ?_
                          exact ihL6 a0 bk a2_68 d2_69 x2_5 f1 f2 f3 (by omega) (by omega) (by omega) (by omega) (by omega) (by first | exact hmC | exact hi6_5) (by omega)
                        ·
                          refine v_aload_n fx 5 dX8_readTwo_206 rfl rfl ?_
                          refine v_iload_n fx 7 dX8_readTwo_207 rfl rfl ?_
                          refine v_iload fx 2 dX8_readTwo_208 rfl rfl ?_
                          refine v_iload fx 2 dX8_readTwo_210 rfl rfl ?_
                          refine v_iload fx 1 dX8_readTwo_212 rfl rfl ?_
                          refine v_iadd fx (0 + r_59) dX8_readTwo_214 (by rfl) rfl ?_
                          refine v_iload fx 10 dX8_readTwo_215 rfl rfl ?_
                          refine v_callV (As := [.int (iI ba), .int (iI 0), .int (iI (0 + r_59)), .int (iI bk)]) (rest := []) fx [3, 2] [0, 1, 4, 5, 6, 7] [(h0, ob 8 [.ref xa, .ref xb, .ref xc, .ref xd, .ref xe, .ref xf, .ref xg, .int (iI vc), .int (iI vk), .int (iI vw), .ref xm, .ref xv, .int (iI vg), .ref xw, .int (iI vb), .int (iI vi), .ref xq, .int (iI ve), .int (iI vf), .int (iI vu), .int (iI vl), .ref xr, .ref xh, .ref xo, .ref xp, .int (iI vr), .int (iI a2_68), .int (iI vt), .int (iI vm), .int (iI d2_69), .int (iI x2_5)]), (xr, aZ g 75000 f1)] [(xo, aI g 75100 f2), (xp, aI g 25 f3), (xw, aI g 72000 f), (xq, aI g 2000 fq), (xf, aI g 16384 fw), (xg, aI g 16384 fb)] 4 0 (c_X8_paint l g h0 xa xb xc xd xe xf xg xm xv xw xq xr xh xo xp vc vk vw vg vb vi ve vf vu vl vr a2_68 vt vm d2_69 x2_5 f1 ba 0 (0 + r_59) bk (by first | omega | decide | assumption) (by first | omega | decide | assumption) (by first | omega | decide | assumption)) dX8_readTwo_217 k1174 k1176 k36 k57 k1177 ykX8_paint rfl rfl rfl rfl rfl rfl rfl rfl (nl rfl) ⟨nl rfl, nl rfl⟩ ⟨(nl rfl), (nl rfl)⟩ rfl (fun v9 w9 hu => ?_)
                          obtain ⟨f2_74, rfl, rfl⟩ := hu
                          refine v_is (wn := [(xo, aI g 75100 f2), (xp, aI g 25 f3), (xw, aI g 72000 f), (xq, aI g 2000 fq), (xf, aI g 16384 fw), (xg, aI g 16384 fb), (h0, ob 8 [.ref xa, .ref xb, .ref xc, .ref xd, .ref xe, .ref xf, .ref xg, .int (iI vc), .int (iI vk), .int (iI vw), .ref xm, .ref xv, .int (iI vg), .ref xw, .int (iI vb), .int (iI vi), .ref xq, .int (iI ve), .int (iI vf), .int (iI vu), .int (iI vl), .ref xr, .ref xh, .ref xo, .ref xp, .int (iI vr), .int (iI a2_68), .int (iI vt), .int (iI vm), .int (iI d2_69), .int (iI x2_5)]), (xr, aZ g 75000 f2_74)]) (cn := 0) (sn := 0) (sn2 := []) rfl rfl rfl rfl ?_
                          refine v_aload_n fx 5 dX8_readTwo_220 rfl rfl ?_
                          refine v_iload_n fx 7 dX8_readTwo_221 rfl rfl ?_
                          refine v_iload fx 2 dX8_readTwo_222 rfl rfl ?_
                          refine v_iload fx 1 dX8_readTwo_224 rfl rfl ?_
                          refine v_iadd fx (0 + r_59) dX8_readTwo_226 (by rfl) rfl ?_
                          refine v_iload fx 2 dX8_readTwo_227 rfl rfl ?_
                          refine v_iload fx 1 dX8_readTwo_229 rfl rfl ?_
                          refine v_iadd fx (0 + r_59) dX8_readTwo_231 (by rfl) rfl ?_
                          refine v_iload fx 0 dX8_readTwo_232 rfl rfl ?_
                          refine v_iadd fx ((0 + r_59) + r_67) dX8_readTwo_234 (by rfl) rfl ?_
                          refine v_iload fx 10 dX8_readTwo_235 rfl rfl ?_
                          refine v_if_ne fx 244 dX8_readTwo_237 (by decide) rfl (by omega) (fun h_75 => ?_) (fun h_75 => ?_)
                          ·
                            refine v_iconst fx dX8_readTwo_244 rfl ?_
                            refine v_callV (As := [.int (iI ba), .int (iI (0 + r_59)), .int (iI ((0 + r_59) + r_67)), .int (iI 0)]) (rest := []) fx [6, 7] [0, 1, 2, 3, 4, 5] [(h0, ob 8 [.ref xa, .ref xb, .ref xc, .ref xd, .ref xe, .ref xf, .ref xg, .int (iI vc), .int (iI vk), .int (iI vw), .ref xm, .ref xv, .int (iI vg), .ref xw, .int (iI vb), .int (iI vi), .ref xq, .int (iI ve), .int (iI vf), .int (iI vu), .int (iI vl), .ref xr, .ref xh, .ref xo, .ref xp, .int (iI vr), .int (iI a2_68), .int (iI vt), .int (iI vm), .int (iI d2_69), .int (iI x2_5)]), (xr, aZ g 75000 f2_74)] [(xo, aI g 75100 f2), (xp, aI g 25 f3), (xw, aI g 72000 f), (xq, aI g 2000 fq), (xf, aI g 16384 fw), (xg, aI g 16384 fb)] 4 0 (c_X8_paint l g h0 xa xb xc xd xe xf xg xm xv xw xq xr xh xo xp vc vk vw vg vb vi ve vf vu vl vr a2_68 vt vm d2_69 x2_5 f2_74 ba (0 + r_59) ((0 + r_59) + r_67) 0 (by first | omega | decide | assumption) (by first | omega | decide | assumption) (by first | omega | decide | assumption)) dX8_readTwo_245 k1174 k1176 k36 k57 k1177 ykX8_paint rfl rfl rfl rfl rfl rfl rfl rfl (nl rfl) ⟨nl rfl, nl rfl⟩ ⟨(nl rfl), (nl rfl)⟩ rfl (fun v9 w9 hu => ?_)
                            obtain ⟨f2_76, rfl, rfl⟩ := hu
                            refine v_is (wn := [(xo, aI g 75100 f2), (xp, aI g 25 f3), (xw, aI g 72000 f), (xq, aI g 2000 fq), (xf, aI g 16384 fw), (xg, aI g 16384 fb), (h0, ob 8 [.ref xa, .ref xb, .ref xc, .ref xd, .ref xe, .ref xf, .ref xg, .int (iI vc), .int (iI vk), .int (iI vw), .ref xm, .ref xv, .int (iI vg), .ref xw, .int (iI vb), .int (iI vi), .ref xq, .int (iI ve), .int (iI vf), .int (iI vu), .int (iI vl), .ref xr, .ref xh, .ref xo, .ref xp, .int (iI vr), .int (iI a2_68), .int (iI vt), .int (iI vm), .int (iI d2_69), .int (iI x2_5)]), (xr, aZ g 75000 f2_76)]) (cn := 0) (sn := 0) (sn2 := []) rfl rfl rfl rfl ?_
                            refine v_iload fx 2 dX8_readTwo_248 rfl rfl ?_
                            refine v_iload fx 1 dX8_readTwo_250 rfl rfl ?_
                            refine v_iadd fx (0 + r_59) dX8_readTwo_252 (by rfl) rfl ?_
                            refine v_iload fx 0 dX8_readTwo_253 rfl rfl ?_
                            refine v_iadd fx ((0 + r_59) + r_67) dX8_readTwo_255 (by rfl) rfl ?_
                            refine v_istore fx [(4, .int (iI ((0 + r_59) + r_67))), (10, .int (iI r_67)), (9, .int (iI r_59)), (8, .int (iI 0)), (7, .int (iI b)), (6, .int (iI q)), (0, .ref h0), (1, .int (iI y)), (2, .int (iI ba)), (3, .int (iI ab)), (5, .int (iI bk))] dX8_readTwo_256 (by decide) rfl rfl ?_
                            refine v_goto fx 329 dX8_readTwo_258 (by decide) ?_
                            refine v_goto fx 6 dX8_readTwo_329 (by decide) ?_
                            refine v_ws [6, 2, 3, 4, 5, 7, 0, 1] [(h0, ob 8 [.ref xa, .ref xb, .ref xc, .ref xd, .ref xe, .ref xf, .ref xg, .int (iI vc), .int (iI vk), .int (iI vw), .ref xm, .ref xv, .int (iI vg), .ref xw, .int (iI vb), .int (iI vi), .ref xq, .int (iI ve), .int (iI vf), .int (iI vu), .int (iI vl), .ref xr, .ref xh, .ref xo, .ref xp, .int (iI vr), .int (iI a2_68), .int (iI vt), .int (iI vm), .int (iI d2_69), .int (iI x2_5)]), (xw, aI g 72000 f), (xq, aI g 2000 fq), (xf, aI g 16384 fw), (xg, aI g 16384 fb), (xr, aZ g 75000 f2_76), (xo, aI g 75100 f2), (xp, aI g 25 f3)] rfl rfl ?_
                            refine v_lv [6, 7, 8, 9, 0, 10] [(0, .ref h0), (1, .int (iI y)), (2, .int (iI ba)), (3, .int (iI ab)), (4, .int (iI ((0 + r_59) + r_67))), (5, .int (iI bk))] rfl ?_
                            exact ihL6 ((0 + r_59) + r_67) bk a2_68 d2_69 x2_5 f2_76 f2 f3 (by omega) (by omega) (by omega) (by omega) (by omega) (by first | exact hmC | exact hi6_5) (by omega)
                          ·
                            refine v_iconst fx dX8_readTwo_240 rfl ?_
                            refine v_goto fx 245 dX8_readTwo_241 (by decide) ?_
                            refine v_callV (As := [.int (iI ba), .int (iI (0 + r_59)), .int (iI ((0 + r_59) + r_67)), .int (iI 1)]) (rest := []) fx [6, 7] [0, 1, 2, 3, 4, 5] [(h0, ob 8 [.ref xa, .ref xb, .ref xc, .ref xd, .ref xe, .ref xf, .ref xg, .int (iI vc), .int (iI vk), .int (iI vw), .ref xm, .ref xv, .int (iI vg), .ref xw, .int (iI vb), .int (iI vi), .ref xq, .int (iI ve), .int (iI vf), .int (iI vu), .int (iI vl), .ref xr, .ref xh, .ref xo, .ref xp, .int (iI vr), .int (iI a2_68), .int (iI vt), .int (iI vm), .int (iI d2_69), .int (iI x2_5)]), (xr, aZ g 75000 f2_74)] [(xo, aI g 75100 f2), (xp, aI g 25 f3), (xw, aI g 72000 f), (xq, aI g 2000 fq), (xf, aI g 16384 fw), (xg, aI g 16384 fb)] 4 0 (c_X8_paint l g h0 xa xb xc xd xe xf xg xm xv xw xq xr xh xo xp vc vk vw vg vb vi ve vf vu vl vr a2_68 vt vm d2_69 x2_5 f2_74 ba (0 + r_59) ((0 + r_59) + r_67) 1 (by first | omega | decide | assumption) (by first | omega | decide | assumption) (by first | omega | decide | assumption)) dX8_readTwo_245 k1174 k1176 k36 k57 k1177 ykX8_paint rfl rfl rfl rfl rfl rfl rfl rfl (nl rfl) ⟨nl rfl, nl rfl⟩ ⟨(nl rfl), (nl rfl)⟩ rfl (fun v9 w9 hu => ?_)
                            obtain ⟨f2_77, rfl, rfl⟩ := hu
                            refine v_is (wn := [(xo, aI g 75100 f2), (xp, aI g 25 f3), (xw, aI g 72000 f), (xq, aI g 2000 fq), (xf, aI g 16384 fw), (xg, aI g 16384 fb), (h0, ob 8 [.ref xa, .ref xb, .ref xc, .ref xd, .ref xe, .ref xf, .ref xg, .int (iI vc), .int (iI vk), .int (iI vw), .ref xm, .ref xv, .int (iI vg), .ref xw, .int (iI vb), .int (iI vi), .ref xq, .int (iI ve), .int (iI vf), .int (iI vu), .int (iI vl), .ref xr, .ref xh, .ref xo, .ref xp, .int (iI vr), .int (iI a2_68), .int (iI vt), .int (iI vm), .int (iI d2_69), .int (iI x2_5)]), (xr, aZ g 75000 f2_77)]) (cn := 0) (sn := 0) (sn2 := []) rfl rfl rfl rfl ?_
                            refine v_iload fx 2 dX8_readTwo_248 rfl rfl ?_
                            refine v_iload fx 1 dX8_readTwo_250 rfl rfl ?_
                            refine v_iadd fx (0 + r_59) dX8_readTwo_252 (by rfl) rfl ?_
                            refine v_iload fx 0 dX8_readTwo_253 rfl rfl ?_
                            refine v_iadd fx ((0 + r_59) + r_67) dX8_readTwo_255 (by rfl) rfl ?_
                            refine v_istore fx [(4, .int (iI ((0 + r_59) + r_67))), (10, .int (iI r_67)), (9, .int (iI r_59)), (8, .int (iI 0)), (7, .int (iI b)), (6, .int (iI q)), (0, .ref h0), (1, .int (iI y)), (2, .int (iI ba)), (3, .int (iI ab)), (5, .int (iI bk))] dX8_readTwo_256 (by decide) rfl rfl ?_
                            refine v_goto fx 329 dX8_readTwo_258 (by decide) ?_
                            refine v_goto fx 6 dX8_readTwo_329 (by decide) ?_
                            refine v_ws [6, 2, 3, 4, 5, 7, 0, 1] [(h0, ob 8 [.ref xa, .ref xb, .ref xc, .ref xd, .ref xe, .ref xf, .ref xg, .int (iI vc), .int (iI vk), .int (iI vw), .ref xm, .ref xv, .int (iI vg), .ref xw, .int (iI vb), .int (iI vi), .ref xq, .int (iI ve), .int (iI vf), .int (iI vu), .int (iI vl), .ref xr, .ref xh, .ref xo, .ref xp, .int (iI vr), .int (iI a2_68), .int (iI vt), .int (iI vm), .int (iI d2_69), .int (iI x2_5)]), (xw, aI g 72000 f), (xq, aI g 2000 fq), (xf, aI g 16384 fw), (xg, aI g 16384 fb), (xr, aZ g 75000 f2_77), (xo, aI g 75100 f2), (xp, aI g 25 f3)] rfl rfl ?_
                            refine v_lv [6, 7, 8, 9, 0, 10] [(0, .ref h0), (1, .int (iI y)), (2, .int (iI ba)), (3, .int (iI ab)), (4, .int (iI ((0 + r_59) + r_67))), (5, .int (iI bk))] rfl ?_
                            exact ihL6 ((0 + r_59) + r_67) bk a2_68 d2_69 x2_5 f2_77 f2 f3 (by omega) (by omega) (by omega) (by omega) (by omega) (by first | exact hmC | exact hi6_5) (by omega)
                      ·
                        refine v_iconst fx dX8_readTwo_179 rfl ?_
                        refine v_goto fx 184 dX8_readTwo_180 (by decide) ?_
                        refine v_aload_n fx 4 dX8_readTwo_184 rfl rfl ?_
                        refine v_get fx 3 9 inX8 k1005 dX8_readTwo_185 rfl rfl (by decide) rfl rfl rfl ?_
                        refine v_iload fx 1 dX8_readTwo_188 rfl rfl ?_
                        refine v_isub fx (vw - 0) dX8_readTwo_190 (by rfl) rfl ?_
                        refine v_iload fx 0 dX8_readTwo_191 rfl rfl ?_
                        refine v_isub fx ((vw - 0) - r_59) dX8_readTwo_193 (by rfl) rfl ?_
                        refine v_callV (As := [.int (iI 1), .int (iI ((vw - 0) - r_59))]) (rest := []) fx [3, 4, 5, 6, 7] [0, 1, 2] [(h0, ob 8 [.ref xa, .ref xb, .ref xc, .ref xd, .ref xe, .ref xf, .ref xg, .int (iI vc), .int (iI vk), .int (iI vw), .ref xm, .ref xv, .int (iI vg), .ref xw, .int (iI vb), .int (iI vi), .ref xq, .int (iI ve), .int (iI vf), .int (iI vu), .int (iI vl), .ref xr, .ref xh, .ref xo, .ref xp, .int (iI vr), .int (iI a2_60), .int (iI vt), .int (iI vm), .int (iI d2_61), .int (iI x2_5)]), (xw, aI g 72000 f), (xq, aI g 2000 fq), (xf, aI g 16384 fw), (xg, aI g 16384 fb)] [(xo, aI g 75100 f2), (xp, aI g 25 f3), (xr, aZ g 75000 f1)] 2 0 (c_X8_readRun l g h0 xa xb xc xd xe xf xg xm xv xw xq xr xh xo xp vc vk vw vg vb vi ve vf vu vl vr a2_60 vt vm d2_61 x2_5 f fq fw fb 1 ((vw - 0) - r_59) (by first | omega | decide | assumption) (by first | omega | decide | assumption) (by first | omega | decide | assumption) (by first | omega | decide | assumption) (by first | omega | decide | assumption) (by first | omega | decide | assumption) (by first | omega | decide | assumption) (by first | omega | decide | assumption) (by first | omega | decide | assumption) (by first | omega | decide | assumption)) dX8_readTwo_194 k1182 k1184 k38 k57 k1185 ykX8_readRun rfl rfl rfl rfl rfl rfl rfl rfl (nl rfl) ⟨nl rfl, nl rfl⟩ ⟨(nl rfl), (nl rfl)⟩ rfl (fun v9 w9 hu => ?_)
                        obtain ⟨r_78, a2_79, d2_80, rfl, rfl, u_81, u_82, u_83⟩ := hu
                        refine v_is (wn := [(xo, aI g 75100 f2), (xp, aI g 25 f3), (xr, aZ g 75000 f1), (h0, ob 8 [.ref xa, .ref xb, .ref xc, .ref xd, .ref xe, .ref xf, .ref xg, .int (iI vc), .int (iI vk), .int (iI vw), .ref xm, .ref xv, .int (iI vg), .ref xw, .int (iI vb), .int (iI vi), .ref xq, .int (iI ve), .int (iI vf), .int (iI vu), .int (iI vl), .ref xr, .ref xh, .ref xo, .ref xp, .int (iI vr), .int (iI a2_79), .int (iI vt), .int (iI vm), .int (iI d2_80), .int (iI x2_5)]), (xw, aI g 72000 f), (xq, aI g 2000 fq), (xf, aI g 16384 fw), (xg, aI g 16384 fb)]) (cn := 0) (sn := 0) (sn2 := [.int (iI r_78)]) rfl rfl rfl rfl ?_
                        refine v_istore fx [(10, .int (iI r_78)), (9, .int (iI r_59)), (8, .int (iI 0)), (7, .int (iI b)), (6, .int (iI q)), (0, .ref h0), (1, .int (iI y)), (2, .int (iI ba)), (3, .int (iI ab)), (4, .int (iI a0)), (5, .int (iI bk))] dX8_readTwo_197 (by decide) rfl rfl ?_
                        refine v_aload_n fx 5 dX8_readTwo_199 rfl rfl ?_
                        refine v_get fx 3 29 inX8 k1025 dX8_readTwo_200 rfl rfl (by decide) rfl rfl rfl ?_
                        refine v_if_ne fx 258 dX8_readTwo_203 (by decide) rfl (by omega) (fun h_84 => ?_) (fun h_84 => ?_)
                        ·
                          refine v_goto fx 329 dX8_readTwo_258 (by decide) ?_
                          refine v_goto fx 6 dX8_readTwo_329 (by decide) ?_
                          refine v_ws [3, 4, 5, 6, 7, 2, 0, 1] [(h0, ob 8 [.ref xa, .ref xb, .ref xc, .ref xd, .ref xe, .ref xf, .ref xg, .int (iI vc), .int (iI vk), .int (iI vw), .ref xm, .ref xv, .int (iI vg), .ref xw, .int (iI vb), .int (iI vi), .ref xq, .int (iI ve), .int (iI vf), .int (iI vu), .int (iI vl), .ref xr, .ref xh, .ref xo, .ref xp, .int (iI vr), .int (iI a2_79), .int (iI vt), .int (iI vm), .int (iI d2_80), .int (iI x2_5)]), (xw, aI g 72000 f), (xq, aI g 2000 fq), (xf, aI g 16384 fw), (xg, aI g 16384 fb), (xr, aZ g 75000 f1), (xo, aI g 75100 f2), (xp, aI g 25 f3)] rfl rfl ?_
                          refine v_lv [5, 6, 7, 8, 9, 10] [(0, .ref h0), (1, .int (iI y)), (2, .int (iI ba)), (3, .int (iI ab)), (4, .int (iI a0)), (5, .int (iI bk))] rfl ?_
                          exact ihL6 a0 bk a2_79 d2_80 x2_5 f1 f2 f3 (by omega) (by omega) (by omega) (by omega) (by omega) (by first | exact hmC | exact hi6_5) (by omega)
                        ·
                          refine v_aload_n fx 5 dX8_readTwo_206 rfl rfl ?_
                          refine v_iload_n fx 7 dX8_readTwo_207 rfl rfl ?_
                          refine v_iload fx 2 dX8_readTwo_208 rfl rfl ?_
                          refine v_iload fx 2 dX8_readTwo_210 rfl rfl ?_
                          refine v_iload fx 1 dX8_readTwo_212 rfl rfl ?_
                          refine v_iadd fx (0 + r_59) dX8_readTwo_214 (by rfl) rfl ?_
                          refine v_iload fx 10 dX8_readTwo_215 rfl rfl ?_
                          refine v_callV (As := [.int (iI ba), .int (iI 0), .int (iI (0 + r_59)), .int (iI bk)]) (rest := []) fx [3, 2] [0, 1, 4, 5, 6, 7] [(h0, ob 8 [.ref xa, .ref xb, .ref xc, .ref xd, .ref xe, .ref xf, .ref xg, .int (iI vc), .int (iI vk), .int (iI vw), .ref xm, .ref xv, .int (iI vg), .ref xw, .int (iI vb), .int (iI vi), .ref xq, .int (iI ve), .int (iI vf), .int (iI vu), .int (iI vl), .ref xr, .ref xh, .ref xo, .ref xp, .int (iI vr), .int (iI a2_79), .int (iI vt), .int (iI vm), .int (iI d2_80), .int (iI x2_5)]), (xr, aZ g 75000 f1)] [(xo, aI g 75100 f2), (xp, aI g 25 f3), (xw, aI g 72000 f), (xq, aI g 2000 fq), (xf, aI g 16384 fw), (xg, aI g 16384 fb)] 4 0 (c_X8_paint l g h0 xa xb xc xd xe xf xg xm xv xw xq xr xh xo xp vc vk vw vg vb vi ve vf vu vl vr a2_79 vt vm d2_80 x2_5 f1 ba 0 (0 + r_59) bk (by first | omega | decide | assumption) (by first | omega | decide | assumption) (by first | omega | decide | assumption)) dX8_readTwo_217 k1174 k1176 k36 k57 k1177 ykX8_paint rfl rfl rfl rfl rfl rfl rfl rfl (nl rfl) ⟨nl rfl, nl rfl⟩ ⟨(nl rfl), (nl rfl)⟩ rfl (fun v9 w9 hu => ?_)
                          obtain ⟨f2_85, rfl, rfl⟩ := hu
                          refine v_is (wn := [(xo, aI g 75100 f2), (xp, aI g 25 f3), (xw, aI g 72000 f), (xq, aI g 2000 fq), (xf, aI g 16384 fw), (xg, aI g 16384 fb), (h0, ob 8 [.ref xa, .ref xb, .ref xc, .ref xd, .ref xe, .ref xf, .ref xg, .int (iI vc), .int (iI vk), .int (iI vw), .ref xm, .ref xv, .int (iI vg), .ref xw, .int (iI vb), .int (iI vi), .ref xq, .int (iI ve), .int (iI vf), .int (iI vu), .int (iI vl), .ref xr, .ref xh, .ref xo, .ref xp, .int (iI vr), .int (iI a2_79), .int (iI vt), .int (iI vm), .int (iI d2_80), .int (iI x2_5)]), (xr, aZ g 75000 f2_85)]) (cn := 0) (sn := 0) (sn2 := []) rfl rfl rfl rfl ?_
                          refine v_aload_n fx 5 dX8_readTwo_220 rfl rfl ?_
                          refine v_iload_n fx 7 dX8_readTwo_221 rfl rfl ?_
                          refine v_iload fx 2 dX8_readTwo_222 rfl rfl ?_
                          refine v_iload fx 1 dX8_readTwo_224 rfl rfl ?_
                          refine v_iadd fx (0 + r_59) dX8_readTwo_226 (by rfl) rfl ?_
                          refine v_iload fx 2 dX8_readTwo_227 rfl rfl ?_
                          refine v_iload fx 1 dX8_readTwo_229 rfl rfl ?_
                          refine v_iadd fx (0 + r_59) dX8_readTwo_231 (by rfl) rfl ?_
                          refine v_iload fx 0 dX8_readTwo_232 rfl rfl ?_
                          refine v_iadd fx ((0 + r_59) + r_78) dX8_readTwo_234 (by rfl) rfl ?_
                          refine v_iload fx 10 dX8_readTwo_235 rfl rfl ?_
                          refine v_if_ne fx 244 dX8_readTwo_237 (by decide) rfl (by omega) (fun h_86 => ?_) (fun h_86 => ?_)
                          ·
                            refine v_iconst fx dX8_readTwo_244 rfl ?_
                            refine v_callV (As := [.int (iI ba), .int (iI (0 + r_59)), .int (iI ((0 + r_59) + r_78)), .int (iI 0)]) (rest := []) fx [6, 7] [0, 1, 2, 3, 4, 5] [(h0, ob 8 [.ref xa, .ref xb, .ref xc, .ref xd, .ref xe, .ref xf, .ref xg, .int (iI vc), .int (iI vk), .int (iI vw), .ref xm, .ref xv, .int (iI vg), .ref xw, .int (iI vb), .int (iI vi), .ref xq, .int (iI ve), .int (iI vf), .int (iI vu), .int (iI vl), .ref xr, .ref xh, .ref xo, .ref xp, .int (iI vr), .int (iI a2_79), .int (iI vt), .int (iI vm), .int (iI d2_80), .int (iI x2_5)]), (xr, aZ g 75000 f2_85)] [(xo, aI g 75100 f2), (xp, aI g 25 f3), (xw, aI g 72000 f), (xq, aI g 2000 fq), (xf, aI g 16384 fw), (xg, aI g 16384 fb)] 4 0 (c_X8_paint l g h0 xa xb xc xd xe xf xg xm xv xw xq xr xh xo xp vc vk vw vg vb vi ve vf vu vl vr a2_79 vt vm d2_80 x2_5 f2_85 ba (0 + r_59) ((0 + r_59) + r_78) 0 (by first | omega | decide | assumption) (by first | omega | decide | assumption) (by first | omega | decide | assumption)) dX8_readTwo_245 k1174 k1176 k36 k57 k1177 ykX8_paint rfl rfl rfl rfl rfl rfl rfl rfl (nl rfl) ⟨nl rfl, nl rfl⟩ ⟨(nl rfl), (nl rfl)⟩ rfl (fun v9 w9 hu => ?_)
                            obtain ⟨f2_87, rfl, rfl⟩ := hu
                            refine v_is (wn := [(xo, aI g 75100 f2), (xp, aI g 25 f3), (xw, aI g 72000 f), (xq, aI g 2000 fq), (xf, aI g 16384 fw), (xg, aI g 16384 fb), (h0, ob 8 [.ref xa, .ref xb, .ref xc, .ref xd, .ref xe, .ref xf, .ref xg, .int (iI vc), .int (iI vk), .int (iI vw), .ref xm, .ref xv, .int (iI vg), .ref xw, .int (iI vb), .int (iI vi), .ref xq, .int (iI ve), .int (iI vf), .int (iI vu), .int (iI vl), .ref xr, .ref xh, .ref xo, .ref xp, .int (iI vr), .int (iI a2_79), .int (iI vt), .int (iI vm), .int (iI d2_80), .int (iI x2_5)]), (xr, aZ g 75000 f2_87)]) (cn := 0) (sn := 0) (sn2 := []) rfl rfl rfl rfl ?_
                            refine v_iload fx 2 dX8_readTwo_248 rfl rfl ?_
                            refine v_iload fx 1 dX8_readTwo_250 rfl rfl ?_
                            refine v_iadd fx (0 + r_59) dX8_readTwo_252 (by rfl) rfl ?_
                            refine v_iload fx 0 dX8_readTwo_253 rfl rfl ?_
                            refine v_iadd fx ((0 + r_59) + r_78) dX8_readTwo_255 (by rfl) rfl ?_
                            refine v_istore fx [(4, .int (iI ((0 + r_59) + r_78))), (10, .int (iI r_78)), (9, .int (iI r_59)), (8, .int (iI 0)), (7, .int (iI b)), (6, .int (iI q)), (0, .ref h0), (1, .int (iI y)), (2, .int (iI ba)), (3, .int (iI ab)), (5, .int (iI bk))] dX8_readTwo_256 (by decide) rfl rfl ?_
                            refine v_goto fx 329 dX8_readTwo_258 (by decide) ?_
                            refine v_goto fx 6 dX8_readTwo_329 (by decide) ?_
                            refine v_ws [6, 2, 3, 4, 5, 7, 0, 1] [(h0, ob 8 [.ref xa, .ref xb, .ref xc, .ref xd, .ref xe, .ref xf, .ref xg, .int (iI vc), .int (iI vk), .int (iI vw), .ref xm, .ref xv, .int (iI vg), .ref xw, .int (iI vb), .int (iI vi), .ref xq, .int (iI ve), .int (iI vf), .int (iI vu), .int (iI vl), .ref xr, .ref xh, .ref xo, .ref xp, .int (iI vr), .int (iI a2_79), .int (iI vt), .int (iI vm), .int (iI d2_80), .int (iI x2_5)]), (xw, aI g 72000 f), (xq, aI g 2000 fq), (xf, aI g 16384 fw), (xg, aI g 16384 fb), (xr, aZ g 75000 f2_87), (xo, aI g 75100 f2), (xp, aI g 25 f3)] rfl rfl ?_
                            refine v_lv [6, 7, 8, 9, 0, 10] [(0, .ref h0), (1, .int (iI y)), (2, .int (iI ba)), (3, .int (iI ab)), (4, .int (iI ((0 + r_59) + r_78))), (5, .int (iI bk))] rfl ?_
                            exact ihL6 ((0 + r_59) + r_78) bk a2_79 d2_80 x2_5 f2_87 f2 f3 (by omega) (by omega) (by omega) (by omega) (by omega) (by first | exact hmC | exact hi6_5) (by omega)
                          ·
                            refine v_iconst fx dX8_readTwo_240 rfl ?_
                            refine v_goto fx 245 dX8_readTwo_241 (by decide) ?_
                            refine v_callV (As := [.int (iI ba), .int (iI (0 + r_59)), .int (iI ((0 + r_59) + r_78)), .int (iI 1)]) (rest := []) fx [6, 7] [0, 1, 2, 3, 4, 5] [(h0, ob 8 [.ref xa, .ref xb, .ref xc, .ref xd, .ref xe, .ref xf, .ref xg, .int (iI vc), .int (iI vk), .int (iI vw), .ref xm, .ref xv, .int (iI vg), .ref xw, .int (iI vb), .int (iI vi), .ref xq, .int (iI ve), .int (iI vf), .int (iI vu), .int (iI vl), .ref xr, .ref xh, .ref xo, .ref xp, .int (iI vr), .int (iI a2_79), .int (iI vt), .int (iI vm), .int (iI d2_80), .int (iI x2_5)]), (xr, aZ g 75000 f2_85)] [(xo, aI g 75100 f2), (xp, aI g 25 f3), (xw, aI g 72000 f), (xq, aI g 2000 fq), (xf, aI g 16384 fw), (xg, aI g 16384 fb)] 4 0 (c_X8_paint l g h0 xa xb xc xd xe xf xg xm xv xw xq xr xh xo xp vc vk vw vg vb vi ve vf vu vl vr a2_79 vt vm d2_80 x2_5 f2_85 ba (0 + r_59) ((0 + r_59) + r_78) 1 (by first | omega | decide | assumption) (by first | omega | decide | assumption) (by first | omega | decide | assumption)) dX8_readTwo_245 k1174 k1176 k36 k57 k1177 ykX8_paint rfl rfl rfl rfl rfl rfl rfl rfl (nl rfl) ⟨nl rfl, nl rfl⟩ ⟨(nl rfl), (nl rfl)⟩ rfl (fun v9 w9 hu => ?_)
                            obtain ⟨f2_88, rfl, rfl⟩ := hu
                            refine v_is (wn := [(xo, aI g 75100 f2), (xp, aI g 25 f3), (xw, aI g 72000 f), (xq, aI g 2000 fq), (xf, aI g 16384 fw), (xg, aI g 16384 fb), (h0, ob 8 [.ref xa, .ref xb, .ref xc, .ref xd, .ref xe, .ref xf, .ref xg, .int (iI vc), .int (iI vk), .int (iI vw), .ref xm, .ref xv, .int (iI vg), .ref xw, .int (iI vb), .int (iI vi), .ref xq, .int (iI ve), .int (iI vf), .int (iI vu), .int (iI vl), .ref xr, .ref xh, .ref xo, .ref xp, .int (iI vr), .int (iI a2_79), .int (iI vt), .int (iI vm), .int (iI d2_80), .int (iI x2_5)]), (xr, aZ g 75000 f2_88)]) (cn := 0) (sn := 0) (sn2 := []) rfl rfl rfl rfl ?_
                            refine v_iload fx 2 dX8_readTwo_248 rfl rfl ?_
                            refine v_iload fx 1 dX8_readTwo_250 rfl rfl ?_
                            refine v_iadd fx (0 + r_59) dX8_readTwo_252 (by rfl) rfl ?_
                            refine v_iload fx 0 dX8_readTwo_253 rfl rfl ?_
                            refine v_iadd fx ((0 + r_59) + r_78) dX8_readTwo_255 (by rfl) rfl ?_
                            refine v_istore fx [(4, .int (iI ((0 + r_59) + r_78))), (10, .int (iI r_78)), (9, .int (iI r_59)), (8, .int (iI 0)), (7, .int (iI b)), (6, .int (iI q)), (0, .ref h0), (1, .int (iI y)), (2, .int (iI ba)), (3, .int (iI ab)), (5, .int (iI bk))] dX8_readTwo_256 (by decide) rfl rfl ?_
                            refine v_goto fx 329 dX8_readTwo_258 (by decide) ?_
                            refine v_goto fx 6 dX8_readTwo_329 (by decide) ?_
                            refine v_ws [6, 2, 3, 4, 5, 7, 0, 1] [(h0, ob 8 [.ref xa, .ref xb, .ref xc, .ref xd, .ref xe, .ref xf, .ref xg, .int (iI vc), .int (iI vk), .int (iI vw), .ref xm, .ref xv, .int (iI vg), .ref xw, .int (iI vb), .int (iI vi), .ref xq, .int (iI ve), .int (iI vf), .int (iI vu), .int (iI vl), .ref xr, .ref xh, .ref xo, .ref xp, .int (iI vr), .int (iI a2_79), .int (iI vt), .int (iI vm), .int (iI d2_80), .int (iI x2_5)]), (xw, aI g 72000 f), (xq, aI g 2000 fq), (xf, aI g 16384 fw), (xg, aI g 16384 fb), (xr, aZ g 75000 f2_88), (xo, aI g 75100 f2), (xp, aI g 25 f3)] rfl rfl ?_
                            refine v_lv [6, 7, 8, 9, 0, 10] [(0, .ref h0), (1, .int (iI y)), (2, .int (iI ba)), (3, .int (iI ab)), (4, .int (iI ((0 + r_59) + r_78))), (5, .int (iI bk))] rfl ?_
                            exact ihL6 ((0 + r_59) + r_78) bk a2_79 d2_80 x2_5 f2_88 f2 f3 (by omega) (by omega) (by omega) (by omega) (by omega) (by first | exact hmC | exact hi6_5) (by omega)
                    ·
                      refine v_iconst fx dX8_readTwo_169 rfl ?_
                      refine v_goto fx 197 dX8_readTwo_170 (by decide) ?_
                      refine v_istore fx [(10, .int (iI 0)), (9, .int (iI r_59)), (8, .int (iI 0)), (7, .int (iI b)), (6, .int (iI q)), (0, .ref h0), (1, .int (iI y)), (2, .int (iI ba)), (3, .int (iI ab)), (4, .int (iI a0)), (5, .int (iI bk))] dX8_readTwo_197 (by decide) rfl rfl ?_
                      refine v_aload_n fx 5 dX8_readTwo_199 rfl rfl ?_
                      refine v_get fx 3 29 inX8 k1025 dX8_readTwo_200 rfl rfl (by decide) rfl rfl rfl ?_
                      refine v_if_ne fx 258 dX8_readTwo_203 (by decide) rfl (by omega) (fun h_89 => ?_) (fun h_89 => ?_)
                      ·
                        refine v_goto fx 329 dX8_readTwo_258 (by decide) ?_
                        refine v_goto fx 6 dX8_readTwo_329 (by decide) ?_
                        refine v_ws [3, 4, 5, 6, 7, 2, 0, 1] [(h0, ob 8 [.ref xa, .ref xb, .ref xc, .ref xd, .ref xe, .ref xf, .ref xg, .int (iI vc), .int (iI vk), .int (iI vw), .ref xm, .ref xv, .int (iI vg), .ref xw, .int (iI vb), .int (iI vi), .ref xq, .int (iI ve), .int (iI vf), .int (iI vu), .int (iI vl), .ref xr, .ref xh, .ref xo, .ref xp, .int (iI vr), .int (iI a2_60), .int (iI vt), .int (iI vm), .int (iI d2_61), .int (iI x2_5)]), (xw, aI g 72000 f), (xq, aI g 2000 fq), (xf, aI g 16384 fw), (xg, aI g 16384 fb), (xr, aZ g 75000 f1), (xo, aI g 75100 f2), (xp, aI g 25 f3)] rfl rfl ?_
                        refine v_lv [5, 6, 7, 8, 9, 10] [(0, .ref h0), (1, .int (iI y)), (2, .int (iI ba)), (3, .int (iI ab)), (4, .int (iI a0)), (5, .int (iI bk))] rfl ?_
                        exact ihL6 a0 bk a2_60 d2_61 x2_5 f1 f2 f3 (by omega) (by omega) (by omega) (by omega) (by omega) (by first | exact hmC | exact hi6_5) (by omega)
                      ·
                        refine v_aload_n fx 5 dX8_readTwo_206 rfl rfl ?_
                        refine v_iload_n fx 7 dX8_readTwo_207 rfl rfl ?_
                        refine v_iload fx 2 dX8_readTwo_208 rfl rfl ?_
                        refine v_iload fx 2 dX8_readTwo_210 rfl rfl ?_
                        refine v_iload fx 1 dX8_readTwo_212 rfl rfl ?_
                        refine v_iadd fx (0 + r_59) dX8_readTwo_214 (by rfl) rfl ?_
                        refine v_iload fx 10 dX8_readTwo_215 rfl rfl ?_
                        refine v_callV (As := [.int (iI ba), .int (iI 0), .int (iI (0 + r_59)), .int (iI bk)]) (rest := []) fx [3, 2] [0, 1, 4, 5, 6, 7] [(h0, ob 8 [.ref xa, .ref xb, .ref xc, .ref xd, .ref xe, .ref xf, .ref xg, .int (iI vc), .int (iI vk), .int (iI vw), .ref xm, .ref xv, .int (iI vg), .ref xw, .int (iI vb), .int (iI vi), .ref xq, .int (iI ve), .int (iI vf), .int (iI vu), .int (iI vl), .ref xr, .ref xh, .ref xo, .ref xp, .int (iI vr), .int (iI a2_60), .int (iI vt), .int (iI vm), .int (iI d2_61), .int (iI x2_5)]), (xr, aZ g 75000 f1)] [(xo, aI g 75100 f2), (xp, aI g 25 f3), (xw, aI g 72000 f), (xq, aI g 2000 fq), (xf, aI g 16384 fw), (xg, aI g 16384 fb)] 4 0 (c_X8_paint l g h0 xa xb xc xd xe xf xg xm xv xw xq xr xh xo xp vc vk vw vg vb vi ve vf vu vl vr a2_60 vt vm d2_61 x2_5 f1 ba 0 (0 + r_59) bk (by first | omega | decide | assumption) (by first | omega | decide | assumption) (by first | omega | decide | assumption)) dX8_readTwo_217 k1174 k1176 k36 k57 k1177 ykX8_paint rfl rfl rfl rfl rfl rfl rfl rfl (nl rfl) ⟨nl rfl, nl rfl⟩ ⟨(nl rfl), (nl rfl)⟩ rfl (fun v9 w9 hu => ?_)
                        obtain ⟨f2_90, rfl, rfl⟩ := hu
                        refine v_is (wn := [(xo, aI g 75100 f2), (xp, aI g 25 f3), (xw, aI g 72000 f), (xq, aI g 2000 fq), (xf, aI g 16384 fw), (xg, aI g 16384 fb), (h0, ob 8 [.ref xa, .ref xb, .ref xc, .ref xd, .ref xe, .ref xf, .ref xg, .int (iI vc), .int (iI vk), .int (iI vw), .ref xm, .ref xv, .int (iI vg), .ref xw, .int (iI vb), .int (iI vi), .ref xq, .int (iI ve), .int (iI vf), .int (iI vu), .int (iI vl), .ref xr, .ref xh, .ref xo, .ref xp, .int (iI vr), .int (iI a2_60), .int (iI vt), .int (iI vm), .int (iI d2_61), .int (iI x2_5)]), (xr, aZ g 75000 f2_90)]) (cn := 0) (sn := 0) (sn2 := []) rfl rfl rfl rfl ?_
                        refine v_aload_n fx 5 dX8_readTwo_220 rfl rfl ?_
                        refine v_iload_n fx 7 dX8_readTwo_221 rfl rfl ?_
                        refine v_iload fx 2 dX8_readTwo_222 rfl rfl ?_
                        refine v_iload fx 1 dX8_readTwo_224 rfl rfl ?_
                        refine v_iadd fx (0 + r_59) dX8_readTwo_226 (by rfl) rfl ?_
                        refine v_iload fx 2 dX8_readTwo_227 rfl rfl ?_
                        refine v_iload fx 1 dX8_readTwo_229 rfl rfl ?_
                        refine v_iadd fx (0 + r_59) dX8_readTwo_231 (by rfl) rfl ?_
                        refine v_iload fx 0 dX8_readTwo_232 rfl rfl ?_
                        refine v_iadd fx ((0 + r_59) + 0) dX8_readTwo_234 (by rfl) rfl ?_
                        refine v_iload fx 10 dX8_readTwo_235 rfl rfl ?_
                        refine v_if_ne fx 244 dX8_readTwo_237 (by decide) rfl (by omega) (fun h_91 => ?_) (fun h_91 => ?_)
                        ·
                          refine v_iconst fx dX8_readTwo_244 rfl ?_
                          refine v_callV (As := [.int (iI ba), .int (iI (0 + r_59)), .int (iI ((0 + r_59) + 0)), .int (iI 0)]) (rest := []) fx [6, 7] [0, 1, 2, 3, 4, 5] [(h0, ob 8 [.ref xa, .ref xb, .ref xc, .ref xd, .ref xe, .ref xf, .ref xg, .int (iI vc), .int (iI vk), .int (iI vw), .ref xm, .ref xv, .int (iI vg), .ref xw, .int (iI vb), .int (iI vi), .ref xq, .int (iI ve), .int (iI vf), .int (iI vu), .int (iI vl), .ref xr, .ref xh, .ref xo, .ref xp, .int (iI vr), .int (iI a2_60), .int (iI vt), .int (iI vm), .int (iI d2_61), .int (iI x2_5)]), (xr, aZ g 75000 f2_90)] [(xo, aI g 75100 f2), (xp, aI g 25 f3), (xw, aI g 72000 f), (xq, aI g 2000 fq), (xf, aI g 16384 fw), (xg, aI g 16384 fb)] 4 0 (c_X8_paint l g h0 xa xb xc xd xe xf xg xm xv xw xq xr xh xo xp vc vk vw vg vb vi ve vf vu vl vr a2_60 vt vm d2_61 x2_5 f2_90 ba (0 + r_59) ((0 + r_59) + 0) 0 (by first | omega | decide | assumption) (by first | omega | decide | assumption) (by first | omega | decide | assumption)) dX8_readTwo_245 k1174 k1176 k36 k57 k1177 ykX8_paint rfl rfl rfl rfl rfl rfl rfl rfl (nl rfl) ⟨nl rfl, nl rfl⟩ ⟨(nl rfl), (nl rfl)⟩ rfl (fun v9 w9 hu => ?_)
                          obtain ⟨f2_92, rfl, rfl⟩ := hu
                          refine v_is (wn := [(xo, aI g 75100 f2), (xp, aI g 25 f3), (xw, aI g 72000 f), (xq, aI g 2000 fq), (xf, aI g 16384 fw), (xg, aI g 16384 fb), (h0, ob 8 [.ref xa, .ref xb, .ref xc, .ref xd, .ref xe, .ref xf, .ref xg, .int (iI vc), .int (iI vk), .int (iI vw), .ref xm, .ref xv, .int (iI vg), .ref xw, .int (iI vb), .int (iI vi), .ref xq, .int (iI ve), .int (iI vf), .int (iI vu), .int (iI vl), .ref xr, .ref xh, .ref xo, .ref xp, .int (iI vr), .int (iI a2_60), .int (iI vt), .int (iI vm), .int (iI d2_61), .int (iI x2_5)]), (xr, aZ g 75000 f2_92)]) (cn := 0) (sn := 0) (sn2 := []) rfl rfl rfl rfl ?_
                          refine v_iload fx 2 dX8_readTwo_248 rfl rfl ?_
                          refine v_iload fx 1 dX8_readTwo_250 rfl rfl ?_
                          refine v_iadd fx (0 + r_59) dX8_readTwo_252 (by rfl) rfl ?_
                          refine v_iload fx 0 dX8_readTwo_253 rfl rfl ?_
                          refine v_iadd fx ((0 + r_59) + 0) dX8_readTwo_255 (by rfl) rfl ?_
                          refine v_istore fx [(4, .int (iI ((0 + r_59) + 0))), (10, .int (iI 0)), (9, .int (iI r_59)), (8, .int (iI 0)), (7, .int (iI b)), (6, .int (iI q)), (0, .ref h0), (1, .int (iI y)), (2, .int (iI ba)), (3, .int (iI ab)), (5, .int (iI bk))] dX8_readTwo_256 (by decide) rfl rfl ?_
                          refine v_goto fx 329 dX8_readTwo_258 (by decide) ?_
                          refine v_goto fx 6 dX8_readTwo_329 (by decide) ?_
                          refine v_ws [6, 2, 3, 4, 5, 7, 0, 1] [(h0, ob 8 [.ref xa, .ref xb, .ref xc, .ref xd, .ref xe, .ref xf, .ref xg, .int (iI vc), .int (iI vk), .int (iI vw), .ref xm, .ref xv, .int (iI vg), .ref xw, .int (iI vb), .int (iI vi), .ref xq, .int (iI ve), .int (iI vf), .int (iI vu), .int (iI vl), .ref xr, .ref xh, .ref xo, .ref xp, .int (iI vr), .int (iI a2_60), .int (iI vt), .int (iI vm), .int (iI d2_61), .int (iI x2_5)]), (xw, aI g 72000 f), (xq, aI g 2000 fq), (xf, aI g 16384 fw), (xg, aI g 16384 fb), (xr, aZ g 75000 f2_92), (xo, aI g 75100 f2), (xp, aI g 25 f3)] rfl rfl ?_
                          refine v_lv [6, 7, 8, 9, 0, 10] [(0, .ref h0), (1, .int (iI y)), (2, .int (iI ba)), (3, .int (iI ab)), (4, .int (iI ((0 + r_59) + 0))), (5, .int (iI bk))] rfl ?_
                          exact ihL6 ((0 + r_59) + 0) bk a2_60 d2_61 x2_5 f2_92 f2 f3 (by omega) (by omega) (by omega) (by omega) (by omega) (by first | exact hmC | exact hi6_5) (by omega)
                        ·
                          refine v_iconst fx dX8_readTwo_240 rfl ?_
                          refine v_goto fx 245 dX8_readTwo_241 (by decide) ?_
                          refine v_callV (As := [.int (iI ba), .int (iI (0 + r_59)), .int (iI ((0 + r_59) + 0)), .int (iI 1)]) (rest := []) fx [6, 7] [0, 1, 2, 3, 4, 5] [(h0, ob 8 [.ref xa, .ref xb, .ref xc, .ref xd, .ref xe, .ref xf, .ref xg, .int (iI vc), .int (iI vk), .int (iI vw), .ref xm, .ref xv, .int (iI vg), .ref xw, .int (iI vb), .int (iI vi), .ref xq, .int (iI ve), .int (iI vf), .int (iI vu), .int (iI vl), .ref xr, .ref xh, .ref xo, .ref xp, .int (iI vr), .int (iI a2_60), .int (iI vt), .int (iI vm), .int (iI d2_61), .int (iI x2_5)]), (xr, aZ g 75000 f2_90)] [(xo, aI g 75100 f2), (xp, aI g 25 f3), (xw, aI g 72000 f), (xq, aI g 2000 fq), (xf, aI g 16384 fw), (xg, aI g 16384 fb)] 4 0 (c_X8_paint l g h0 xa xb xc xd xe xf xg xm xv xw xq xr xh xo xp vc vk vw vg vb vi ve vf vu vl vr a2_60 vt vm d2_61 x2_5 f2_90 ba (0 + r_59) ((0 + r_59) + 0) 1 (by first | omega | decide | assumption) (by first | omega | decide | assumption) (by first | omega | decide | assumption)) dX8_readTwo_245 k1174 k1176 k36 k57 k1177 ykX8_paint rfl rfl rfl rfl rfl rfl rfl rfl (nl rfl) ⟨nl rfl, nl rfl⟩ ⟨(nl rfl), (nl rfl)⟩ rfl (fun v9 w9 hu => ?_)
                          obtain ⟨f2_93, rfl, rfl⟩ := hu
                          refine v_is (wn := [(xo, aI g 75100 f2), (xp, aI g 25 f3), (xw, aI g 72000 f), (xq, aI g 2000 fq), (xf, aI g 16384 fw), (xg, aI g 16384 fb), (h0, ob 8 [.ref xa, .ref xb, .ref xc, .ref xd, .ref xe, .ref xf, .ref xg, .int (iI vc), .int (iI vk), .int (iI vw), .ref xm, .ref xv, .int (iI vg), .ref xw, .int (iI vb), .int (iI vi), .ref xq, .int (iI ve), .int (iI vf), .int (iI vu), .int (iI vl), .ref xr, .ref xh, .ref xo, .ref xp, .int (iI vr), .int (iI a2_60), .int (iI vt), .int (iI vm), .int (iI d2_61), .int (iI x2_5)]), (xr, aZ g 75000 f2_93)]) (cn := 0) (sn := 0) (sn2 := []) rfl rfl rfl rfl ?_
                          refine v_iload fx 2 dX8_readTwo_248 rfl rfl ?_
                          refine v_iload fx 1 dX8_readTwo_250 rfl rfl ?_
                          refine v_iadd fx (0 + r_59) dX8_readTwo_252 (by rfl) rfl ?_
                          refine v_iload fx 0 dX8_readTwo_253 rfl rfl ?_
                          refine v_iadd fx ((0 + r_59) + 0) dX8_readTwo_255 (by rfl) rfl ?_
                          refine v_istore fx [(4, .int (iI ((0 + r_59) + 0))), (10, .int (iI 0)), (9, .int (iI r_59)), (8, .int (iI 0)), (7, .int (iI b)), (6, .int (iI q)), (0, .ref h0), (1, .int (iI y)), (2, .int (iI ba)), (3, .int (iI ab)), (5, .int (iI bk))] dX8_readTwo_256 (by decide) rfl rfl ?_
                          refine v_goto fx 329 dX8_readTwo_258 (by decide) ?_
                          refine v_goto fx 6 dX8_readTwo_329 (by decide) ?_
                          refine v_ws [6, 2, 3, 4, 5, 7, 0, 1] [(h0, ob 8 [.ref xa, .ref xb, .ref xc, .ref xd, .ref xe, .ref xf, .ref xg, .int (iI vc), .int (iI vk), .int (iI vw), .ref xm, .ref xv, .int (iI vg), .ref xw, .int (iI vb), .int (iI vi), .ref xq, .int (iI ve), .int (iI vf), .int (iI vu), .int (iI vl), .ref xr, .ref xh, .ref xo, .ref xp, .int (iI vr), .int (iI a2_60), .int (iI vt), .int (iI vm), .int (iI d2_61), .int (iI x2_5)]), (xw, aI g 72000 f), (xq, aI g 2000 fq), (xf, aI g 16384 fw), (xg, aI g 16384 fb), (xr, aZ g 75000 f2_93), (xo, aI g 75100 f2), (xp, aI g 25 f3)] rfl rfl ?_
                          refine v_lv [6, 7, 8, 9, 0, 10] [(0, .ref h0), (1, .int (iI y)), (2, .int (iI ba)), (3, .int (iI ab)), (4, .int (iI ((0 + r_59) + 0))), (5, .int (iI bk))] rfl ?_
                          exact ihL6 ((0 + r_59) + 0) bk a2_60 d2_61 x2_5 f2_93 f2 f3 (by omega) (by omega) (by omega) (by omega) (by omega) (by first | exact hmC | exact hi6_5) (by omega)
              ·
                refine v_aload_n fx 2 dX8_readTwo_97 rfl rfl ?_
                refine v_aload_n fx 2 dX8_readTwo_98 rfl rfl ?_
                refine v_get fx 6 21 inX8 k1017 dX8_readTwo_99 rfl rfl (by decide) rfl rfl rfl ?_
                refine v_iload_n fx 5 dX8_readTwo_102 rfl rfl ?_
                refine v_iload fx 0 dX8_readTwo_103 rfl rfl ?_
                refine v_callV (As := [.ref xr, .int (iI ab), .int (iI b)]) (rest := []) fx [6, 7] [0, 1, 2, 3, 4, 5] [(h0, ob 8 [.ref xa, .ref xb, .ref xc, .ref xd, .ref xe, .ref xf, .ref xg, .int (iI vc), .int (iI vk), .int (iI vw), .ref xm, .ref xv, .int (iI vg), .ref xw, .int (iI vb), .int (iI vi), .ref xq, .int (iI ve), .int (iI vf), .int (iI vu), .int (iI vl), .ref xr, .ref xh, .ref xo, .ref xp, .int (iI vr), .int (iI a2_3), .int (iI vt), .int (iI vm), .int (iI d2_4), .int (iI x2_5)]), (xr, aZ g 75000 f1)] [(xf, aI g 16384 fw), (xg, aI g 16384 fb), (xo, aI g 75100 f2), (xp, aI g 25 f3), (xw, aI g 72000 f), (xq, aI g 2000 fq)] 3 0 (c_X8_b2 l g h0 xa xb xc xd xe xf xg xm xv xw xq xr xh xo xp vc vk vw vg vb vi ve vf vu vl vr a2_3 vt vm d2_4 x2_5 xr 75000 f1 ab b (by first | omega | decide | assumption) (by first | omega | decide | assumption) (by first | omega | decide | assumption)) dX8_readTwo_105 k1138 k1140 k30 k57 k1141 ykX8_b2 rfl rfl rfl rfl rfl rfl rfl rfl (nl rfl) ⟨nl rfl, nl rfl⟩ ⟨(nl rfl), (nl rfl)⟩ rfl (fun v9 w9 hu => ?_)
                obtain ⟨to, rfl, rfl, u_94⟩ := hu
                refine v_is (wn := [(xf, aI g 16384 fw), (xg, aI g 16384 fb), (xo, aI g 75100 f2), (xp, aI g 25 f3), (xw, aI g 72000 f), (xq, aI g 2000 fq), (h0, ob 8 [.ref xa, .ref xb, .ref xc, .ref xd, .ref xe, .ref xf, .ref xg, .int (iI vc), .int (iI vk), .int (iI vw), .ref xm, .ref xv, .int (iI vg), .ref xw, .int (iI vb), .int (iI vi), .ref xq, .int (iI ve), .int (iI vf), .int (iI vu), .int (iI vl), .ref xr, .ref xh, .ref xo, .ref xp, .int (iI vr), .int (iI a2_3), .int (iI vt), .int (iI vm), .int (iI d2_4), .int (iI x2_5)]), (xr, aZ g 75000 f1)]) (cn := 0) (sn := 0) (sn2 := [.int (iI to)]) rfl rfl rfl rfl ?_
                refine v_istore fx [(8, .int (iI to)), (7, .int (iI b)), (6, .int (iI q)), (0, .ref h0), (1, .int (iI y)), (2, .int (iI ba)), (3, .int (iI ab)), (4, .int (iI a0)), (5, .int (iI bk))] dX8_readTwo_108 (by decide) rfl rfl ?_
                refine v_aload_n fx 3 dX8_readTwo_110 rfl rfl ?_
                refine v_iload_n fx 5 dX8_readTwo_111 rfl rfl ?_
                refine v_iload fx 7 dX8_readTwo_112 rfl rfl ?_
                refine v_iload fx 0 dX8_readTwo_114 rfl rfl ?_
                refine v_iload fx 8 dX8_readTwo_116 rfl rfl ?_
                refine v_callV (As := [.int (iI ba), .int (iI a0), .int (iI to), .int (iI bk)]) (rest := []) fx [6, 7] [0, 1, 2, 3, 4, 5] [(h0, ob 8 [.ref xa, .ref xb, .ref xc, .ref xd, .ref xe, .ref xf, .ref xg, .int (iI vc), .int (iI vk), .int (iI vw), .ref xm, .ref xv, .int (iI vg), .ref xw, .int (iI vb), .int (iI vi), .ref xq, .int (iI ve), .int (iI vf), .int (iI vu), .int (iI vl), .ref xr, .ref xh, .ref xo, .ref xp, .int (iI vr), .int (iI a2_3), .int (iI vt), .int (iI vm), .int (iI d2_4), .int (iI x2_5)]), (xr, aZ g 75000 f1)] [(xf, aI g 16384 fw), (xg, aI g 16384 fb), (xo, aI g 75100 f2), (xp, aI g 25 f3), (xw, aI g 72000 f), (xq, aI g 2000 fq)] 4 0 (c_X8_paint l g h0 xa xb xc xd xe xf xg xm xv xw xq xr xh xo xp vc vk vw vg vb vi ve vf vu vl vr a2_3 vt vm d2_4 x2_5 f1 ba a0 to bk (by first | omega | decide | assumption) (by first | omega | decide | assumption) (by first | omega | decide | assumption)) dX8_readTwo_118 k1174 k1176 k36 k57 k1177 ykX8_paint rfl rfl rfl rfl rfl rfl rfl rfl (nl rfl) ⟨nl rfl, nl rfl⟩ ⟨(nl rfl), (nl rfl)⟩ rfl (fun v9 w9 hu => ?_)
                obtain ⟨f2_95, rfl, rfl⟩ := hu
                refine v_is (wn := [(xf, aI g 16384 fw), (xg, aI g 16384 fb), (xo, aI g 75100 f2), (xp, aI g 25 f3), (xw, aI g 72000 f), (xq, aI g 2000 fq), (h0, ob 8 [.ref xa, .ref xb, .ref xc, .ref xd, .ref xe, .ref xf, .ref xg, .int (iI vc), .int (iI vk), .int (iI vw), .ref xm, .ref xv, .int (iI vg), .ref xw, .int (iI vb), .int (iI vi), .ref xq, .int (iI ve), .int (iI vf), .int (iI vu), .int (iI vl), .ref xr, .ref xh, .ref xo, .ref xp, .int (iI vr), .int (iI a2_3), .int (iI vt), .int (iI vm), .int (iI d2_4), .int (iI x2_5)]), (xr, aZ g 75000 f2_95)]) (cn := 0) (sn := 0) (sn2 := []) rfl rfl rfl rfl ?_
                refine v_iload fx 0 dX8_readTwo_121 rfl rfl ?_
                refine v_istore fx [(4, .int (iI to)), (8, .int (iI to)), (7, .int (iI b)), (6, .int (iI q)), (0, .ref h0), (1, .int (iI y)), (2, .int (iI ba)), (3, .int (iI ab)), (5, .int (iI bk))] dX8_readTwo_123 (by decide) rfl rfl ?_
                refine v_goto fx 329 dX8_readTwo_125 (by decide) ?_
                refine v_goto fx 6 dX8_readTwo_329 (by decide) ?_
                refine v_ws [6, 4, 5, 0, 1, 7, 2, 3] [(h0, ob 8 [.ref xa, .ref xb, .ref xc, .ref xd, .ref xe, .ref xf, .ref xg, .int (iI vc), .int (iI vk), .int (iI vw), .ref xm, .ref xv, .int (iI vg), .ref xw, .int (iI vb), .int (iI vi), .ref xq, .int (iI ve), .int (iI vf), .int (iI vu), .int (iI vl), .ref xr, .ref xh, .ref xo, .ref xp, .int (iI vr), .int (iI a2_3), .int (iI vt), .int (iI vm), .int (iI d2_4), .int (iI x2_5)]), (xw, aI g 72000 f), (xq, aI g 2000 fq), (xf, aI g 16384 fw), (xg, aI g 16384 fb), (xr, aZ g 75000 f2_95), (xo, aI g 75100 f2), (xp, aI g 25 f3)] rfl rfl ?_
                refine v_lv [4, 5, 6, 7, 0, 8] [(0, .ref h0), (1, .int (iI y)), (2, .int (iI ba)), (3, .int (iI ab)), (4, .int (iI to)), (5, .int (iI bk))] rfl ?_
                exact ihL6 to bk a2_3 d2_4 x2_5 f2_95 f2 f3 (by omega) (by omega) (by omega) (by omega) (by omega) (by first | exact hmC | exact hi6_5) (by omega)
            ·
              refine v_aload_n fx 1 dX8_readTwo_48 rfl rfl ?_
              refine v_get fx 5 23 inX8 k1019 dX8_readTwo_49 rfl rfl (by decide) rfl rfl rfl ?_
              refine v_sipush fx dX8_readTwo_52 (by decide +kernel) rfl ?_
              refine v_iload_n fx 2 dX8_readTwo_55 rfl rfl ?_
              refine v_imul fx (3004 * y) dX8_readTwo_56 (by rfl) rfl ?_
              refine v_aload_n fx 1 dX8_readTwo_57 rfl rfl ?_
              refine v_get fx 5 24 inX8 k1020 dX8_readTwo_58 rfl rfl (by decide) rfl rfl rfl ?_
              refine v_iload_n fx 2 dX8_readTwo_61 rfl rfl ?_
              refine v_iald fx 4 dX8_readTwo_62 rfl (by omega) (by omega) rfl ?_
              refine v_any (fun z_96 hz_96 ez_96 => ?_)
              have hm2 := same_at em1 bm1 ez_96 hz_96
              refine v_iadd fx ((3004 * y) + z_96) dX8_readTwo_63 (by rfl) rfl ?_
              refine v_iload fx 0 dX8_readTwo_64 rfl rfl ?_
              obtain ⟨f_97, ef_97⟩ : ∃ f9 : Nat → Int32, upd f2 ((3004 * y) + z_96).toNat (iI q) = f9 := ⟨_, rfl⟩
              refine v_iast fx 3 f_97 [(xf, aI g 16384 fw), (xg, aI g 16384 fb), (xr, aZ g 75000 f1), (xo, aI g 75100 f_97), (xp, aI g 25 f3), (h0, ob 8 [.ref xa, .ref xb, .ref xc, .ref xd, .ref xe, .ref xf, .ref xg, .int (iI vc), .int (iI vk), .int (iI vw), .ref xm, .ref xv, .int (iI vg), .ref xw, .int (iI vb), .int (iI vi), .ref xq, .int (iI ve), .int (iI vf), .int (iI vu), .int (iI vl), .ref xr, .ref xh, .ref xo, .ref xp, .int (iI vr), .int (iI a2_3), .int (iI vt), .int (iI vm), .int (iI d2_4), .int (iI x2_5)]), (xw, aI g 72000 f), (xq, aI g 2000 fq)] dX8_readTwo_66 rfl (by omega) (by omega) ef_97 rfl rfl ?_
              refine v_aload_n fx 1 dX8_readTwo_67 rfl rfl ?_
              refine v_get fx 5 24 inX8 k1020 dX8_readTwo_68 rfl rfl (by decide) rfl rfl rfl ?_
              refine v_iload_n fx 2 dX8_readTwo_71 rfl rfl ?_
              refine v_dup2 fx dX8_readTwo_72 rfl rfl rfl ?_
              refine v_iald fx 4 dX8_readTwo_73 rfl (by omega) (by omega) rfl ?_
              refine v_any (fun z_98 hz_98 ez_98 => ?_)
              have hm3 := same_at em1 bm1 ez_98 hz_98
              refine v_iconst fx dX8_readTwo_74 rfl ?_
              refine v_iadd fx (z_98 + 1) dX8_readTwo_75 (by rfl) rfl ?_
              obtain ⟨f_99, ef_99⟩ : ∃ f9 : Nat → Int32, upd f3 (y).toNat (iI (z_98 + 1)) = f9 := ⟨_, rfl⟩
              refine v_iast fx 4 f_99 [(xf, aI g 16384 fw), (xg, aI g 16384 fb), (xr, aZ g 75000 f1), (xo, aI g 75100 f_97), (xp, aI g 25 f_99), (h0, ob 8 [.ref xa, .ref xb, .ref xc, .ref xd, .ref xe, .ref xf, .ref xg, .int (iI vc), .int (iI vk), .int (iI vw), .ref xm, .ref xv, .int (iI vg), .ref xw, .int (iI vb), .int (iI vi), .ref xq, .int (iI ve), .int (iI vf), .int (iI vu), .int (iI vl), .ref xr, .ref xh, .ref xo, .ref xp, .int (iI vr), .int (iI a2_3), .int (iI vt), .int (iI vm), .int (iI d2_4), .int (iI x2_5)]), (xw, aI g 72000 f), (xq, aI g 2000 fq)] dX8_readTwo_76 rfl (by omega) (by omega) ef_99 rfl rfl ?_
              have hmC := mC_updE (by assumption) hi6_5 (by omega)
              refine v_aload_n fx 1 dX8_readTwo_77 rfl rfl ?_
              refine v_aload_n fx 1 dX8_readTwo_78 rfl rfl ?_
              refine v_get fx 5 21 inX8 k1017 dX8_readTwo_79 rfl rfl (by decide) rfl rfl rfl ?_
              refine v_iload_n fx 4 dX8_readTwo_82 rfl rfl ?_
              refine v_iload fx 5 dX8_readTwo_83 rfl rfl ?_
              refine v_iload fx 6 dX8_readTwo_85 rfl rfl ?_
              refine v_callV (As := [.ref xr, .int (iI ab), .int (iI a0), .int (iI bk)]) (rest := []) fx [5, 2] [0, 1, 3, 4, 6, 7] [(h0, ob 8 [.ref xa, .ref xb, .ref xc, .ref xd, .ref xe, .ref xf, .ref xg, .int (iI vc), .int (iI vk), .int (iI vw), .ref xm, .ref xv, .int (iI vg), .ref xw, .int (iI vb), .int (iI vi), .ref xq, .int (iI ve), .int (iI vf), .int (iI vu), .int (iI vl), .ref xr, .ref xh, .ref xo, .ref xp, .int (iI vr), .int (iI a2_3), .int (iI vt), .int (iI vm), .int (iI d2_4), .int (iI x2_5)]), (xr, aZ g 75000 f1)] [(xf, aI g 16384 fw), (xg, aI g 16384 fb), (xo, aI g 75100 f_97), (xp, aI g 25 f_99), (xw, aI g 72000 f), (xq, aI g 2000 fq)] 4 0 (c_X8_b1 l g h0 xa xb xc xd xe xf xg xm xv xw xq xr xh xo xp vc vk vw vg vb vi ve vf vu vl vr a2_3 vt vm d2_4 x2_5 xr 75000 f1 ab a0 bk (by first | omega | decide | assumption) (by first | omega | decide | assumption) (by first | omega | decide | assumption) (by first | omega | decide | assumption)) dX8_readTwo_87 k1134 k1136 k29 k57 k1137 ykX8_b1 rfl rfl rfl rfl rfl rfl rfl rfl (nl rfl) ⟨nl rfl, nl rfl⟩ ⟨(nl rfl), (nl rfl)⟩ rfl (fun v9 w9 hu => ?_)
              obtain ⟨b, rfl, rfl, u_100⟩ := hu
              refine v_is (wn := [(xf, aI g 16384 fw), (xg, aI g 16384 fb), (xo, aI g 75100 f_97), (xp, aI g 25 f_99), (xw, aI g 72000 f), (xq, aI g 2000 fq), (h0, ob 8 [.ref xa, .ref xb, .ref xc, .ref xd, .ref xe, .ref xf, .ref xg, .int (iI vc), .int (iI vk), .int (iI vw), .ref xm, .ref xv, .int (iI vg), .ref xw, .int (iI vb), .int (iI vi), .ref xq, .int (iI ve), .int (iI vf), .int (iI vu), .int (iI vl), .ref xr, .ref xh, .ref xo, .ref xp, .int (iI vr), .int (iI a2_3), .int (iI vt), .int (iI vm), .int (iI d2_4), .int (iI x2_5)]), (xr, aZ g 75000 f1)]) (cn := 0) (sn := 0) (sn2 := [.int (iI b)]) rfl rfl rfl rfl ?_
              refine v_istore fx [(7, .int (iI b)), (6, .int (iI q)), (0, .ref h0), (1, .int (iI y)), (2, .int (iI ba)), (3, .int (iI ab)), (4, .int (iI a0)), (5, .int (iI bk))] dX8_readTwo_90 (by decide) rfl rfl ?_
              refine v_iload fx 1 dX8_readTwo_92 rfl rfl ?_
              refine v_if_ne fx 128 dX8_readTwo_94 (by decide) rfl (by omega) (fun h_101 => ?_) (fun h_101 => ?_)
              ·
                refine v_iload fx 1 dX8_readTwo_128 rfl rfl ?_
                refine v_iconst fx dX8_readTwo_130 rfl ?_
                refine v_icmp_ne fx 261 dX8_readTwo_131 (by decide) rfl (by omega) (by omega) (fun h_102 => ?_) (fun h_102 => ?_)
                ·
                  refine v_iload fx 0 dX8_readTwo_261 rfl rfl ?_
                  refine v_iload fx 1 dX8_readTwo_263 rfl rfl ?_
                  refine v_iadd fx (b + q) dX8_readTwo_265 (by rfl) rfl ?_
                  refine v_iconst fx dX8_readTwo_266 rfl ?_
                  refine v_isub fx ((b + q) - 5) dX8_readTwo_267 (by rfl) rfl ?_
                  refine v_istore fx [(8, .int (iI ((b + q) - 5))), (7, .int (iI b)), (6, .int (iI q)), (0, .ref h0), (1, .int (iI y)), (2, .int (iI ba)), (3, .int (iI ab)), (4, .int (iI a0)), (5, .int (iI bk))] dX8_readTwo_268 (by decide) rfl rfl ?_
                  refine v_aload_n fx 3 dX8_readTwo_270 rfl rfl ?_
                  refine v_iload fx 0 dX8_readTwo_271 rfl rfl ?_
                  refine v_aload_n fx 3 dX8_readTwo_273 rfl rfl ?_
                  refine v_get fx 6 9 inX8 k1005 dX8_readTwo_274 rfl rfl (by decide) rfl rfl rfl ?_
                  refine v_icmp_gt fx 287 dX8_readTwo_277 (by decide) rfl (by omega) (by omega) (fun h_103 => ?_) (fun h_103 => ?_)
                  ·
                    refine v_iconst fx dX8_readTwo_287 rfl ?_
                    refine v_goto fx 292 dX8_readTwo_288 (by decide) ?_
                    refine v_put fx 6 29 [(xf, aI g 16384 fw), (xg, aI g 16384 fb), (xo, aI g 75100 f_97), (xp, aI g 25 f_99), (xw, aI g 72000 f), (xq, aI g 2000 fq), (h0, ob 8 [.ref xa, .ref xb, .ref xc, .ref xd, .ref xe, .ref xf, .ref xg, .int (iI vc), .int (iI vk), .int (iI vw), .ref xm, .ref xv, .int (iI vg), .ref xw, .int (iI vb), .int (iI vi), .ref xq, .int (iI ve), .int (iI vf), .int (iI vu), .int (iI vl), .ref xr, .ref xh, .ref xo, .ref xp, .int (iI vr), .int (iI a2_3), .int (iI vt), .int (iI vm), .int (iI 1), .int (iI x2_5)]), (xr, aZ g 75000 f1)] inX8 tyX8_ok nmX8 k1025 dX8_readTwo_292 rfl rfl (by decide) rfl rfl rfl rfl (nl rfl) rfl rfl ?_
                    refine v_aload_n fx 3 dX8_readTwo_295 rfl rfl ?_
                    refine v_get fx 6 29 inX8 k1025 dX8_readTwo_296 rfl rfl (by decide) rfl rfl rfl ?_
                    refine v_if_ne fx 329 dX8_readTwo_299 (by decide) rfl (by omega) (fun h_104 => ?_) (fun h0 => absurd h0 (by omega))
                    refine v_goto fx 6 dX8_readTwo_329 (by decide) ?_
                    refine v_ws [6, 4, 5, 0, 1, 7, 2, 3] [(h0, ob 8 [.ref xa, .ref xb, .ref xc, .ref xd, .ref xe, .ref xf, .ref xg, .int (iI vc), .int (iI vk), .int (iI vw), .ref xm, .ref xv, .int (iI vg), .ref xw, .int (iI vb), .int (iI vi), .ref xq, .int (iI ve), .int (iI vf), .int (iI vu), .int (iI vl), .ref xr, .ref xh, .ref xo, .ref xp, .int (iI vr), .int (iI a2_3), .int (iI vt), .int (iI vm), .int (iI 1), .int (iI x2_5)]), (xw, aI g 72000 f), (xq, aI g 2000 fq), (xf, aI g 16384 fw), (xg, aI g 16384 fb), (xr, aZ g 75000 f1), (xo, aI g 75100 f_97), (xp, aI g 25 f_99)] rfl rfl ?_
                    refine v_lv [3, 4, 5, 6, 7, 8] [(0, .ref h0), (1, .int (iI y)), (2, .int (iI ba)), (3, .int (iI ab)), (4, .int (iI a0)), (5, .int (iI bk))] rfl ?_
                    exact ihL6 a0 bk a2_3 1 x2_5 f1 f_97 f_99 (by omega) (by omega) (by omega) (by omega) (by omega) (by first | exact hmC | exact hi6_5) (by omega)
                  ·
                    refine v_iload fx 0 dX8_readTwo_280 rfl rfl ?_
                    refine v_iload fx 7 dX8_readTwo_282 rfl rfl ?_
                    refine v_icmp_gt fx 291 dX8_readTwo_284 (by decide) rfl (by omega) (by omega) (fun h_105 => ?_) (fun h_105 => ?_)
                    ·
                      refine v_iconst fx dX8_readTwo_291 rfl ?_
                      refine v_put fx 6 29 [(xf, aI g 16384 fw), (xg, aI g 16384 fb), (xo, aI g 75100 f_97), (xp, aI g 25 f_99), (xw, aI g 72000 f), (xq, aI g 2000 fq), (h0, ob 8 [.ref xa, .ref xb, .ref xc, .ref xd, .ref xe, .ref xf, .ref xg, .int (iI vc), .int (iI vk), .int (iI vw), .ref xm, .ref xv, .int (iI vg), .ref xw, .int (iI vb), .int (iI vi), .ref xq, .int (iI ve), .int (iI vf), .int (iI vu), .int (iI vl), .ref xr, .ref xh, .ref xo, .ref xp, .int (iI vr), .int (iI a2_3), .int (iI vt), .int (iI vm), .int (iI 0), .int (iI x2_5)]), (xr, aZ g 75000 f1)] inX8 tyX8_ok nmX8 k1025 dX8_readTwo_292 rfl rfl (by decide) rfl rfl rfl rfl (nl rfl) rfl rfl ?_
                      refine v_aload_n fx 3 dX8_readTwo_295 rfl rfl ?_
                      refine v_get fx 6 29 inX8 k1025 dX8_readTwo_296 rfl rfl (by decide) rfl rfl rfl ?_
                      refine v_if_ne fx 329 dX8_readTwo_299 (by decide) rfl (by omega) (fun h0 => absurd h0 (by omega)) (fun h_106 => ?_)
                      refine v_aload_n fx 3 dX8_readTwo_302 rfl rfl ?_
                      refine v_iload_n fx 5 dX8_readTwo_303 rfl rfl ?_
                      refine v_iload fx 7 dX8_readTwo_304 rfl rfl ?_
                      refine v_iload fx 0 dX8_readTwo_306 rfl rfl ?_
                      refine v_iload fx 8 dX8_readTwo_308 rfl rfl ?_
                      refine v_callV (As := [.int (iI ba), .int (iI a0), .int (iI ((b + q) - 5)), .int (iI bk)]) (rest := []) fx [6, 7] [0, 1, 2, 3, 4, 5] [(h0, ob 8 [.ref xa, .ref xb, .ref xc, .ref xd, .ref xe, .ref xf, .ref xg, .int (iI vc), .int (iI vk), .int (iI vw), .ref xm, .ref xv, .int (iI vg), .ref xw, .int (iI vb), .int (iI vi), .ref xq, .int (iI ve), .int (iI vf), .int (iI vu), .int (iI vl), .ref xr, .ref xh, .ref xo, .ref xp, .int (iI vr), .int (iI a2_3), .int (iI vt), .int (iI vm), .int (iI 0), .int (iI x2_5)]), (xr, aZ g 75000 f1)] [(xf, aI g 16384 fw), (xg, aI g 16384 fb), (xo, aI g 75100 f_97), (xp, aI g 25 f_99), (xw, aI g 72000 f), (xq, aI g 2000 fq)] 4 0 (c_X8_paint l g h0 xa xb xc xd xe xf xg xm xv xw xq xr xh xo xp vc vk vw vg vb vi ve vf vu vl vr a2_3 vt vm 0 x2_5 f1 ba a0 ((b + q) - 5) bk (by first | omega | decide | assumption) (by first | omega | decide | assumption) (by first | omega | decide | assumption)) dX8_readTwo_310 k1174 k1176 k36 k57 k1177 ykX8_paint rfl rfl rfl rfl rfl rfl rfl rfl (nl rfl) ⟨nl rfl, nl rfl⟩ ⟨(nl rfl), (nl rfl)⟩ rfl (fun v9 w9 hu => ?_)
                      obtain ⟨f2_107, rfl, rfl⟩ := hu
                      refine v_is (wn := [(xf, aI g 16384 fw), (xg, aI g 16384 fb), (xo, aI g 75100 f_97), (xp, aI g 25 f_99), (xw, aI g 72000 f), (xq, aI g 2000 fq), (h0, ob 8 [.ref xa, .ref xb, .ref xc, .ref xd, .ref xe, .ref xf, .ref xg, .int (iI vc), .int (iI vk), .int (iI vw), .ref xm, .ref xv, .int (iI vg), .ref xw, .int (iI vb), .int (iI vi), .ref xq, .int (iI ve), .int (iI vf), .int (iI vu), .int (iI vl), .ref xr, .ref xh, .ref xo, .ref xp, .int (iI vr), .int (iI a2_3), .int (iI vt), .int (iI vm), .int (iI 0), .int (iI x2_5)]), (xr, aZ g 75000 f2_107)]) (cn := 0) (sn := 0) (sn2 := []) rfl rfl rfl rfl ?_
                      refine v_iload fx 0 dX8_readTwo_313 rfl rfl ?_
                      refine v_istore fx [(4, .int (iI ((b + q) - 5))), (8, .int (iI ((b + q) - 5))), (7, .int (iI b)), (6, .int (iI q)), (0, .ref h0), (1, .int (iI y)), (2, .int (iI ba)), (3, .int (iI ab)), (5, .int (iI bk))] dX8_readTwo_315 (by decide) rfl rfl ?_
                      refine v_iload fx 8 dX8_readTwo_317 rfl rfl ?_
                      refine v_if_ne fx 326 dX8_readTwo_319 (by decide) rfl (by omega) (fun h_108 => ?_) (fun h_108 => ?_)
                      ·
                        refine v_iconst fx dX8_readTwo_326 rfl ?_
                        refine v_istore fx [(5, .int (iI 0)), (4, .int (iI ((b + q) - 5))), (8, .int (iI ((b + q) - 5))), (7, .int (iI b)), (6, .int (iI q)), (0, .ref h0), (1, .int (iI y)), (2, .int (iI ba)), (3, .int (iI ab))] dX8_readTwo_327 (by decide) rfl rfl ?_
                        refine v_goto fx 6 dX8_readTwo_329 (by decide) ?_
                        refine v_ws [6, 4, 5, 0, 1, 7, 2, 3] [(h0, ob 8 [.ref xa, .ref xb, .ref xc, .ref xd, .ref xe, .ref xf, .ref xg, .int (iI vc), .int (iI vk), .int (iI vw), .ref xm, .ref xv, .int (iI vg), .ref xw, .int (iI vb), .int (iI vi), .ref xq, .int (iI ve), .int (iI vf), .int (iI vu), .int (iI vl), .ref xr, .ref xh, .ref xo, .ref xp, .int (iI vr), .int (iI a2_3), .int (iI vt), .int (iI vm), .int (iI 0), .int (iI x2_5)]), (xw, aI g 72000 f), (xq, aI g 2000 fq), (xf, aI g 16384 fw), (xg, aI g 16384 fb), (xr, aZ g 75000 f2_107), (xo, aI g 75100 f_97), (xp, aI g 25 f_99)] rfl rfl ?_
                        refine v_lv [5, 6, 7, 8, 1, 0] [(0, .ref h0), (1, .int (iI y)), (2, .int (iI ba)), (3, .int (iI ab)), (4, .int (iI ((b + q) - 5))), (5, .int (iI 0))] rfl ?_
                        exact ihL6 ((b + q) - 5) 0 a2_3 0 x2_5 f2_107 f_97 f_99 (by omega) (by omega) (by omega) (by omega) (by omega) (by first | exact hmC | exact hi6_5) (by omega)
                      ·
                        refine v_iconst fx dX8_readTwo_322 rfl ?_
                        refine v_goto fx 327 dX8_readTwo_323 (by decide) ?_
                        refine v_istore fx [(5, .int (iI 1)), (4, .int (iI ((b + q) - 5))), (8, .int (iI ((b + q) - 5))), (7, .int (iI b)), (6, .int (iI q)), (0, .ref h0), (1, .int (iI y)), (2, .int (iI ba)), (3, .int (iI ab))] dX8_readTwo_327 (by decide) rfl rfl ?_
                        refine v_goto fx 6 dX8_readTwo_329 (by decide) ?_
                        refine v_ws [6, 4, 5, 0, 1, 7, 2, 3] [(h0, ob 8 [.ref xa, .ref xb, .ref xc, .ref xd, .ref xe, .ref xf, .ref xg, .int (iI vc), .int (iI vk), .int (iI vw), .ref xm, .ref xv, .int (iI vg), .ref xw, .int (iI vb), .int (iI vi), .ref xq, .int (iI ve), .int (iI vf), .int (iI vu), .int (iI vl), .ref xr, .ref xh, .ref xo, .ref xp, .int (iI vr), .int (iI a2_3), .int (iI vt), .int (iI vm), .int (iI 0), .int (iI x2_5)]), (xw, aI g 72000 f), (xq, aI g 2000 fq), (xf, aI g 16384 fw), (xg, aI g 16384 fb), (xr, aZ g 75000 f2_107), (xo, aI g 75100 f_97), (xp, aI g 25 f_99)] rfl rfl ?_
                        refine v_lv [5, 6, 7, 8, 1, 0] [(0, .ref h0), (1, .int (iI y)), (2, .int (iI ba)), (3, .int (iI ab)), (4, .int (iI ((b + q) - 5))), (5, .int (iI 1))] rfl ?_
                        exact ihL6 ((b + q) - 5) 1 a2_3 0 x2_5 f2_107 f_97 f_99 (by omega) (by omega) (by omega) (by omega) (by omega) (by first | exact hmC | exact hi6_5) (by omega)
                    ·
                      refine v_iconst fx dX8_readTwo_287 rfl ?_
                      refine v_goto fx 292 dX8_readTwo_288 (by decide) ?_
                      refine v_put fx 6 29 [(xf, aI g 16384 fw), (xg, aI g 16384 fb), (xo, aI g 75100 f_97), (xp, aI g 25 f_99), (xw, aI g 72000 f), (xq, aI g 2000 fq), (h0, ob 8 [.ref xa, .ref xb, .ref xc, .ref xd, .ref xe, .ref xf, .ref xg, .int (iI vc), .int (iI vk), .int (iI vw), .ref xm, .ref xv, .int (iI vg), .ref xw, .int (iI vb), .int (iI vi), .ref xq, .int (iI ve), .int (iI vf), .int (iI vu), .int (iI vl), .ref xr, .ref xh, .ref xo, .ref xp, .int (iI vr), .int (iI a2_3), .int (iI vt), .int (iI vm), .int (iI 1), .int (iI x2_5)]), (xr, aZ g 75000 f1)] inX8 tyX8_ok nmX8 k1025 dX8_readTwo_292 rfl rfl (by decide) rfl rfl rfl rfl (nl rfl) rfl rfl ?_
                      refine v_aload_n fx 3 dX8_readTwo_295 rfl rfl ?_
                      refine v_get fx 6 29 inX8 k1025 dX8_readTwo_296 rfl rfl (by decide) rfl rfl rfl ?_
                      refine v_if_ne fx 329 dX8_readTwo_299 (by decide) rfl (by omega) (fun h_109 => ?_) (fun h0 => absurd h0 (by omega))
                      refine v_goto fx 6 dX8_readTwo_329 (by decide) ?_
                      refine v_ws [6, 4, 5, 0, 1, 7, 2, 3] [(h0, ob 8 [.ref xa, .ref xb, .ref xc, .ref xd, .ref xe, .ref xf, .ref xg, .int (iI vc), .int (iI vk), .int (iI vw), .ref xm, .ref xv, .int (iI vg), .ref xw, .int (iI vb), .int (iI vi), .ref xq, .int (iI ve), .int (iI vf), .int (iI vu), .int (iI vl), .ref xr, .ref xh, .ref xo, .ref xp, .int (iI vr), .int (iI a2_3), .int (iI vt), .int (iI vm), .int (iI 1), .int (iI x2_5)]), (xw, aI g 72000 f), (xq, aI g 2000 fq), (xf, aI g 16384 fw), (xg, aI g 16384 fb), (xr, aZ g 75000 f1), (xo, aI g 75100 f_97), (xp, aI g 25 f_99)] rfl rfl ?_
                      refine v_lv [3, 4, 5, 6, 7, 8] [(0, .ref h0), (1, .int (iI y)), (2, .int (iI ba)), (3, .int (iI ab)), (4, .int (iI a0)), (5, .int (iI bk))] rfl ?_
                      exact ihL6 a0 bk a2_3 1 x2_5 f1 f_97 f_99 (by omega) (by omega) (by omega) (by omega) (by omega) (by first | exact hmC | exact hi6_5) (by omega)
                ·
                  refine v_iload fx 6 dX8_readTwo_134 rfl rfl ?_
                  refine v_if_ge fx 143 dX8_readTwo_136 (by decide) rfl (by omega) (fun h_110 => ?_) (fun h_110 => ?_)
                  ·
                    refine v_iload fx 6 dX8_readTwo_143 rfl rfl ?_
                    refine v_istore fx [(8, .int (iI a0)), (7, .int (iI b)), (6, .int (iI q)), (0, .ref h0), (1, .int (iI y)), (2, .int (iI ba)), (3, .int (iI ab)), (4, .int (iI a0)), (5, .int (iI bk))] dX8_readTwo_145 (by decide) rfl rfl ?_
                    refine v_aload_n fx 3 dX8_readTwo_147 rfl rfl ?_
                    refine v_iload fx 8 dX8_readTwo_148 rfl rfl ?_
                    refine v_aload_n fx 3 dX8_readTwo_150 rfl rfl ?_
                    refine v_get fx 6 9 inX8 k1005 dX8_readTwo_151 rfl rfl (by decide) rfl rfl rfl ?_
                    refine v_iload fx 0 dX8_readTwo_154 rfl rfl ?_
                    refine v_isub fx (vw - a0) dX8_readTwo_156 (by rfl) rfl ?_
                    refine v_callV (As := [.int (iI bk), .int (iI (vw - a0))]) (rest := []) fx [6, 4, 5, 0, 1] [2, 3, 7] [(h0, ob 8 [.ref xa, .ref xb, .ref xc, .ref xd, .ref xe, .ref xf, .ref xg, .int (iI vc), .int (iI vk), .int (iI vw), .ref xm, .ref xv, .int (iI vg), .ref xw, .int (iI vb), .int (iI vi), .ref xq, .int (iI ve), .int (iI vf), .int (iI vu), .int (iI vl), .ref xr, .ref xh, .ref xo, .ref xp, .int (iI vr), .int (iI a2_3), .int (iI vt), .int (iI vm), .int (iI d2_4), .int (iI x2_5)]), (xw, aI g 72000 f), (xq, aI g 2000 fq), (xf, aI g 16384 fw), (xg, aI g 16384 fb)] [(xo, aI g 75100 f_97), (xp, aI g 25 f_99), (xr, aZ g 75000 f1)] 2 0 (c_X8_readRun l g h0 xa xb xc xd xe xf xg xm xv xw xq xr xh xo xp vc vk vw vg vb vi ve vf vu vl vr a2_3 vt vm d2_4 x2_5 f fq fw fb bk (vw - a0) (by first | omega | decide | assumption) (by first | omega | decide | assumption) (by first | omega | decide | assumption) (by first | omega | decide | assumption) (by first | omega | decide | assumption) (by first | omega | decide | assumption) (by first | omega | decide | assumption) (by first | omega | decide | assumption) (by first | omega | decide | assumption) (by first | omega | decide | assumption)) dX8_readTwo_157 k1182 k1184 k38 k57 k1185 ykX8_readRun rfl rfl rfl rfl rfl rfl rfl rfl (nl rfl) ⟨nl rfl, nl rfl⟩ ⟨(nl rfl), (nl rfl)⟩ rfl (fun v9 w9 hu => ?_)
                    obtain ⟨r_111, a2_112, d2_113, rfl, rfl, u_114, u_115, u_116⟩ := hu
                    refine v_is (wn := [(xo, aI g 75100 f_97), (xp, aI g 25 f_99), (xr, aZ g 75000 f1), (h0, ob 8 [.ref xa, .ref xb, .ref xc, .ref xd, .ref xe, .ref xf, .ref xg, .int (iI vc), .int (iI vk), .int (iI vw), .ref xm, .ref xv, .int (iI vg), .ref xw, .int (iI vb), .int (iI vi), .ref xq, .int (iI ve), .int (iI vf), .int (iI vu), .int (iI vl), .ref xr, .ref xh, .ref xo, .ref xp, .int (iI vr), .int (iI a2_112), .int (iI vt), .int (iI vm), .int (iI d2_113), .int (iI x2_5)]), (xw, aI g 72000 f), (xq, aI g 2000 fq), (xf, aI g 16384 fw), (xg, aI g 16384 fb)]) (cn := 0) (sn := 0) (sn2 := [.int (iI r_111)]) rfl rfl rfl rfl ?_
                    refine v_istore fx [(9, .int (iI r_111)), (8, .int (iI a0)), (7, .int (iI b)), (6, .int (iI q)), (0, .ref h0), (1, .int (iI y)), (2, .int (iI ba)), (3, .int (iI ab)), (4, .int (iI a0)), (5, .int (iI bk))] dX8_readTwo_160 (by decide) rfl rfl ?_
                    refine v_aload_n fx 4 dX8_readTwo_162 rfl rfl ?_
                    refine v_get fx 3 29 inX8 k1025 dX8_readTwo_163 rfl rfl (by decide) rfl rfl rfl ?_
                    refine v_if_eq fx 173 dX8_readTwo_166 (by decide) rfl (by omega) (fun h_117 => ?_) (fun h_117 => ?_)
                    ·
                      refine v_aload_n fx 4 dX8_readTwo_173 rfl rfl ?_
                      refine v_iload fx 9 dX8_readTwo_174 rfl rfl ?_
                      refine v_if_ne fx 183 dX8_readTwo_176 (by decide) rfl (by omega) (fun h_118 => ?_) (fun h_118 => ?_)
                      ·
                        refine v_iconst fx dX8_readTwo_183 rfl ?_
                        refine v_aload_n fx 4 dX8_readTwo_184 rfl rfl ?_
                        refine v_get fx 3 9 inX8 k1005 dX8_readTwo_185 rfl rfl (by decide) rfl rfl rfl ?_
                        refine v_iload fx 1 dX8_readTwo_188 rfl rfl ?_
                        refine v_isub fx (vw - a0) dX8_readTwo_190 (by rfl) rfl ?_
                        refine v_iload fx 0 dX8_readTwo_191 rfl rfl ?_
                        refine v_isub fx ((vw - a0) - r_111) dX8_readTwo_193 (by rfl) rfl ?_
                        refine v_callV (As := [.int (iI 0), .int (iI ((vw - a0) - r_111))]) (rest := []) fx [3, 4, 5, 6, 7] [0, 1, 2] [(h0, ob 8 [.ref xa, .ref xb, .ref xc, .ref xd, .ref xe, .ref xf, .ref xg, .int (iI vc), .int (iI vk), .int (iI vw), .ref xm, .ref xv, .int (iI vg), .ref xw, .int (iI vb), .int (iI vi), .ref xq, .int (iI ve), .int (iI vf), .int (iI vu), .int (iI vl), .ref xr, .ref xh, .ref xo, .ref xp, .int (iI vr), .int (iI a2_112), .int (iI vt), .int (iI vm), .int (iI d2_113), .int (iI x2_5)]), (xw, aI g 72000 f), (xq, aI g 2000 fq), (xf, aI g 16384 fw), (xg, aI g 16384 fb)] [(xo, aI g 75100 f_97), (xp, aI g 25 f_99), (xr, aZ g 75000 f1)] 2 0 (c_X8_readRun l g h0 xa xb xc xd xe xf xg xm xv xw xq xr xh xo xp vc vk vw vg vb vi ve vf vu vl vr a2_112 vt vm d2_113 x2_5 f fq fw fb 0 ((vw - a0) - r_111) (by first | omega | decide | assumption) (by first | omega | decide | assumption) (by first | omega | decide | assumption) (by first | omega | decide | assumption) (by first | omega | decide | assumption) (by first | omega | decide | assumption) (by first | omega | decide | assumption) (by first | omega | decide | assumption) (by first | omega | decide | assumption) (by first | omega | decide | assumption)) dX8_readTwo_194 k1182 k1184 k38 k57 k1185 ykX8_readRun rfl rfl rfl rfl rfl rfl rfl rfl (nl rfl) ⟨nl rfl, nl rfl⟩ ⟨(nl rfl), (nl rfl)⟩ rfl (fun v9 w9 hu => ?_)
                        obtain ⟨r_119, a2_120, d2_121, rfl, rfl, u_122, u_123, u_124⟩ := hu
                        refine v_is (wn := [(xo, aI g 75100 f_97), (xp, aI g 25 f_99), (xr, aZ g 75000 f1), (h0, ob 8 [.ref xa, .ref xb, .ref xc, .ref xd, .ref xe, .ref xf, .ref xg, .int (iI vc), .int (iI vk), .int (iI vw), .ref xm, .ref xv, .int (iI vg), .ref xw, .int (iI vb), .int (iI vi), .ref xq, .int (iI ve), .int (iI vf), .int (iI vu), .int (iI vl), .ref xr, .ref xh, .ref xo, .ref xp, .int (iI vr), .int (iI a2_120), .int (iI vt), .int (iI vm), .int (iI d2_121), .int (iI x2_5)]), (xw, aI g 72000 f), (xq, aI g 2000 fq), (xf, aI g 16384 fw), (xg, aI g 16384 fb)]) (cn := 0) (sn := 0) (sn2 := [.int (iI r_119)]) rfl rfl rfl rfl ?_
                        refine v_istore fx [(10, .int (iI r_119)), (9, .int (iI r_111)), (8, .int (iI a0)), (7, .int (iI b)), (6, .int (iI q)), (0, .ref h0), (1, .int (iI y)), (2, .int (iI ba)), (3, .int (iI ab)), (4, .int (iI a0)), (5, .int (iI bk))] dX8_readTwo_197 (by decide) rfl rfl ?_
                        refine v_aload_n fx 5 dX8_readTwo_199 rfl rfl ?_
                        refine v_get fx 3 29 inX8 k1025 dX8_readTwo_200 rfl rfl (by decide) rfl rfl rfl ?_
                        refine v_if_ne fx 258 dX8_readTwo_203 (by decide) rfl (by omega) (fun h_125 => ?_) (fun h_125 => ?_)
                        ·
                          refine v_goto fx 329 dX8_readTwo_258 (by decide) ?_
                          refine v_goto fx 6 dX8_readTwo_329 (by decide) ?_
                          refine v_ws [3, 4, 5, 6, 7, 2, 0, 1] [(h0, ob 8 [.ref xa, .ref xb, .ref xc, .ref xd, .ref xe, .ref xf, .ref xg, .int (iI vc), .int (iI vk), .int (iI vw), .ref xm, .ref xv, .int (iI vg), .ref xw, .int (iI vb), .int (iI vi), .ref xq, .int (iI ve), .int (iI vf), .int (iI vu), .int (iI vl), .ref xr, .ref xh, .ref xo, .ref xp, .int (iI vr), .int (iI a2_120), .int (iI vt), .int (iI vm), .int (iI d2_121), .int (iI x2_5)]), (xw, aI g 72000 f), (xq, aI g 2000 fq), (xf, aI g 16384 fw), (xg, aI g 16384 fb), (xr, aZ g 75000 f1), (xo, aI g 75100 f_97), (xp, aI g 25 f_99)] rfl rfl ?_
                          refine v_lv [5, 6, 7, 8, 9, 10] [(0, .ref h0), (1, .int (iI y)), (2, .int (iI ba)), (3, .int (iI ab)), (4, .int (iI a0)), (5, .int (iI bk))] rfl ?_
                          exact ihL6 a0 bk a2_120 d2_121 x2_5 f1 f_97 f_99 (by omega) (by omega) (by omega) (by omega) (by omega) (by first | exact hmC | exact hi6_5) (by omega)
                        ·
                          refine v_aload_n fx 5 dX8_readTwo_206 rfl rfl ?_
                          refine v_iload_n fx 7 dX8_readTwo_207 rfl rfl ?_
                          refine v_iload fx 2 dX8_readTwo_208 rfl rfl ?_
                          refine v_iload fx 2 dX8_readTwo_210 rfl rfl ?_
                          refine v_iload fx 1 dX8_readTwo_212 rfl rfl ?_
                          refine v_iadd fx (a0 + r_111) dX8_readTwo_214 (by rfl) rfl ?_
                          refine v_iload fx 10 dX8_readTwo_215 rfl rfl ?_
                          refine v_callV (As := [.int (iI ba), .int (iI a0), .int (iI (a0 + r_111)), .int (iI bk)]) (rest := []) fx [3, 2] [0, 1, 4, 5, 6, 7] [(h0, ob 8 [.ref xa, .ref xb, .ref xc, .ref xd, .ref xe, .ref xf, .ref xg, .int (iI vc), .int (iI vk), .int (iI vw), .ref xm, .ref xv, .int (iI vg), .ref xw, .int (iI vb), .int (iI vi), .ref xq, .int (iI ve), .int (iI vf), .int (iI vu), .int (iI vl), .ref xr, .ref xh, .ref xo, .ref xp, .int (iI vr), .int (iI a2_120), .int (iI vt), .int (iI vm), .int (iI d2_121), .int (iI x2_5)]), (xr, aZ g 75000 f1)] [(xo, aI g 75100 f_97), (xp, aI g 25 f_99), (xw, aI g 72000 f), (xq, aI g 2000 fq), (xf, aI g 16384 fw), (xg, aI g 16384 fb)] 4 0 (c_X8_paint l g h0 xa xb xc xd xe xf xg xm xv xw xq xr xh xo xp vc vk vw vg vb vi ve vf vu vl vr a2_120 vt vm d2_121 x2_5 f1 ba a0 (a0 + r_111) bk (by first | omega | decide | assumption) (by first | omega | decide | assumption) (by first | omega | decide | assumption)) dX8_readTwo_217 k1174 k1176 k36 k57 k1177 ykX8_paint rfl rfl rfl rfl rfl rfl rfl rfl (nl rfl) ⟨nl rfl, nl rfl⟩ ⟨(nl rfl), (nl rfl)⟩ rfl (fun v9 w9 hu => ?_)
                          obtain ⟨f2_126, rfl, rfl⟩ := hu
                          refine v_is (wn := [(xo, aI g 75100 f_97), (xp, aI g 25 f_99), (xw, aI g 72000 f), (xq, aI g 2000 fq), (xf, aI g 16384 fw), (xg, aI g 16384 fb), (h0, ob 8 [.ref xa, .ref xb, .ref xc, .ref xd, .ref xe, .ref xf, .ref xg, .int (iI vc), .int (iI vk), .int (iI vw), .ref xm, .ref xv, .int (iI vg), .ref xw, .int (iI vb), .int (iI vi), .ref xq, .int (iI ve), .int (iI vf), .int (iI vu), .int (iI vl), .ref xr, .ref xh, .ref xo, .ref xp, .int (iI vr), .int (iI a2_120), .int (iI vt), .int (iI vm), .int (iI d2_121), .int (iI x2_5)]), (xr, aZ g 75000 f2_126)]) (cn := 0) (sn := 0) (sn2 := []) rfl rfl rfl rfl ?_
                          refine v_aload_n fx 5 dX8_readTwo_220 rfl rfl ?_
                          refine v_iload_n fx 7 dX8_readTwo_221 rfl rfl ?_
                          refine v_iload fx 2 dX8_readTwo_222 rfl rfl ?_
                          refine v_iload fx 1 dX8_readTwo_224 rfl rfl ?_
                          refine v_iadd fx (a0 + r_111) dX8_readTwo_226 (by rfl) rfl ?_
                          refine v_iload fx 2 dX8_readTwo_227 rfl rfl ?_
                          refine v_iload fx 1 dX8_readTwo_229 rfl rfl ?_
                          refine v_iadd fx (a0 + r_111) dX8_readTwo_231 (by rfl) rfl ?_
                          refine v_iload fx 0 dX8_readTwo_232 rfl rfl ?_
                          refine v_iadd fx ((a0 + r_111) + r_119) dX8_readTwo_234 (by rfl) rfl ?_
                          refine v_iload fx 10 dX8_readTwo_235 rfl rfl ?_
                          refine v_if_ne fx 244 dX8_readTwo_237 (by decide) rfl (by omega) (fun h_127 => ?_) (fun h_127 => ?_)
                          ·
                            refine v_iconst fx dX8_readTwo_244 rfl ?_
                            refine v_callV (As := [.int (iI ba), .int (iI (a0 + r_111)), .int (iI ((a0 + r_111) + r_119)), .int (iI 0)]) (rest := []) fx [6, 7] [0, 1, 2, 3, 4, 5] [(h0, ob 8 [.ref xa, .ref xb, .ref xc, .ref xd, .ref xe, .ref xf, .ref xg, .int (iI vc), .int (iI vk), .int (iI vw), .ref xm, .ref xv, .int (iI vg), .ref xw, .int (iI vb), .int (iI vi), .ref xq, .int (iI ve), .int (iI vf), .int (iI vu), .int (iI vl), .ref xr, .ref xh, .ref xo, .ref xp, .int (iI vr), .int (iI a2_120), .int (iI vt), .int (iI vm), .int (iI d2_121), .int (iI x2_5)]), (xr, aZ g 75000 f2_126)] [(xo, aI g 75100 f_97), (xp, aI g 25 f_99), (xw, aI g 72000 f), (xq, aI g 2000 fq), (xf, aI g 16384 fw), (xg, aI g 16384 fb)] 4 0 (c_X8_paint l g h0 xa xb xc xd xe xf xg xm xv xw xq xr xh xo xp vc vk vw vg vb vi ve vf vu vl vr a2_120 vt vm d2_121 x2_5 f2_126 ba (a0 + r_111) ((a0 + r_111) + r_119) 0 (by first | omega | decide | assumption) (by first | omega | decide | assumption) (by first | omega | decide | assumption)) dX8_readTwo_245 k1174 k1176 k36 k57 k1177 ykX8_paint rfl rfl rfl rfl rfl rfl rfl rfl (nl rfl) ⟨nl rfl, nl rfl⟩ ⟨(nl rfl), (nl rfl)⟩ rfl (fun v9 w9 hu => ?_)
                            obtain ⟨f2_128, rfl, rfl⟩ := hu
                            refine v_is (wn := [(xo, aI g 75100 f_97), (xp, aI g 25 f_99), (xw, aI g 72000 f), (xq, aI g 2000 fq), (xf, aI g 16384 fw), (xg, aI g 16384 fb), (h0, ob 8 [.ref xa, .ref xb, .ref xc, .ref xd, .ref xe, .ref xf, .ref xg, .int (iI vc), .int (iI vk), .int (iI vw), .ref xm, .ref xv, .int (iI vg), .ref xw, .int (iI vb), .int (iI vi), .ref xq, .int (iI ve), .int (iI vf), .int (iI vu), .int (iI vl), .ref xr, .ref xh, .ref xo, .ref xp, .int (iI vr), .int (iI a2_120), .int (iI vt), .int (iI vm), .int (iI d2_121), .int (iI x2_5)]), (xr, aZ g 75000 f2_128)]) (cn := 0) (sn := 0) (sn2 := []) rfl rfl rfl rfl ?_
                            refine v_iload fx 2 dX8_readTwo_248 rfl rfl ?_
                            refine v_iload fx 1 dX8_readTwo_250 rfl rfl ?_
                            refine v_iadd fx (a0 + r_111) dX8_readTwo_252 (by rfl) rfl ?_
                            refine v_iload fx 0 dX8_readTwo_253 rfl rfl ?_
                            refine v_iadd fx ((a0 + r_111) + r_119) dX8_readTwo_255 (by rfl) rfl ?_
                            refine v_istore fx [(4, .int (iI ((a0 + r_111) + r_119))), (10, .int (iI r_119)), (9, .int (iI r_111)), (8, .int (iI a0)), (7, .int (iI b)), (6, .int (iI q)), (0, .ref h0), (1, .int (iI y)), (2, .int (iI ba)), (3, .int (iI ab)), (5, .int (iI bk))] dX8_readTwo_256 (by decide) rfl rfl ?_
                            refine v_goto fx 329 dX8_readTwo_258 (by decide) ?_
                            refine v_goto fx 6 dX8_readTwo_329 (by decide) ?_
                            refine v_ws [6, 2, 3, 4, 5, 7, 0, 1] [(h0, ob 8 [.ref xa, .ref xb, .ref xc, .ref xd, .ref xe, .ref xf, .ref xg, .int (iI vc), .int (iI vk), .int (iI vw), .ref xm, .ref xv, .int (iI vg), .ref xw, .int (iI vb), .int (iI vi), .ref xq, .int (iI ve), .int (iI vf), .int (iI vu), .int (iI vl), .ref xr, .ref xh, .ref xo, .ref xp, .int (iI vr), .int (iI a2_120), .int (iI vt), .int (iI vm), .int (iI d2_121), .int (iI x2_5)]), (xw, aI g 72000 f), (xq, aI g 2000 fq), (xf, aI g 16384 fw), (xg, aI g 16384 fb), (xr, aZ g 75000 f2_128), (xo, aI g 75100 f_97), (xp, aI g 25 f_99)] rfl rfl ?_
                            refine v_lv [6, 7, 8, 9, 0, 10] [(0, .ref h0), (1, .int (iI y)), (2, .int (iI ba)), (3, .int (iI ab)), (4, .int (iI ((a0 + r_111) + r_119))), (5, .int (iI bk))] rfl ?_
                            exact ihL6 ((a0 + r_111) + r_119) bk a2_120 d2_121 x2_5 f2_128 f_97 f_99 (by omega) (by omega) (by omega) (by omega) (by omega) (by first | exact hmC | exact hi6_5) (by omega)
                          ·
                            refine v_iconst fx dX8_readTwo_240 rfl ?_
                            refine v_goto fx 245 dX8_readTwo_241 (by decide) ?_
                            refine v_callV (As := [.int (iI ba), .int (iI (a0 + r_111)), .int (iI ((a0 + r_111) + r_119)), .int (iI 1)]) (rest := []) fx [6, 7] [0, 1, 2, 3, 4, 5] [(h0, ob 8 [.ref xa, .ref xb, .ref xc, .ref xd, .ref xe, .ref xf, .ref xg, .int (iI vc), .int (iI vk), .int (iI vw), .ref xm, .ref xv, .int (iI vg), .ref xw, .int (iI vb), .int (iI vi), .ref xq, .int (iI ve), .int (iI vf), .int (iI vu), .int (iI vl), .ref xr, .ref xh, .ref xo, .ref xp, .int (iI vr), .int (iI a2_120), .int (iI vt), .int (iI vm), .int (iI d2_121), .int (iI x2_5)]), (xr, aZ g 75000 f2_126)] [(xo, aI g 75100 f_97), (xp, aI g 25 f_99), (xw, aI g 72000 f), (xq, aI g 2000 fq), (xf, aI g 16384 fw), (xg, aI g 16384 fb)] 4 0 (c_X8_paint l g h0 xa xb xc xd xe xf xg xm xv xw xq xr xh xo xp vc vk vw vg vb vi ve vf vu vl vr a2_120 vt vm d2_121 x2_5 f2_126 ba (a0 + r_111) ((a0 + r_111) + r_119) 1 (by first | omega | decide | assumption) (by first | omega | decide | assumption) (by first | omega | decide | assumption)) dX8_readTwo_245 k1174 k1176 k36 k57 k1177 ykX8_paint rfl rfl rfl rfl rfl rfl rfl rfl (nl rfl) ⟨nl rfl, nl rfl⟩ ⟨(nl rfl), (nl rfl)⟩ rfl (fun v9 w9 hu => ?_)
                            obtain ⟨f2_129, rfl, rfl⟩ := hu
                            refine v_is (wn := [(xo, aI g 75100 f_97), (xp, aI g 25 f_99), (xw, aI g 72000 f), (xq, aI g 2000 fq), (xf, aI g 16384 fw), (xg, aI g 16384 fb), (h0, ob 8 [.ref xa, .ref xb, .ref xc, .ref xd, .ref xe, .ref xf, .ref xg, .int (iI vc), .int (iI vk), .int (iI vw), .ref xm, .ref xv, .int (iI vg), .ref xw, .int (iI vb), .int (iI vi), .ref xq, .int (iI ve), .int (iI vf), .int (iI vu), .int (iI vl), .ref xr, .ref xh, .ref xo, .ref xp, .int (iI vr), .int (iI a2_120), .int (iI vt), .int (iI vm), .int (iI d2_121), .int (iI x2_5)]), (xr, aZ g 75000 f2_129)]) (cn := 0) (sn := 0) (sn2 := []) rfl rfl rfl rfl ?_
                            refine v_iload fx 2 dX8_readTwo_248 rfl rfl ?_
                            refine v_iload fx 1 dX8_readTwo_250 rfl rfl ?_
                            refine v_iadd fx (a0 + r_111) dX8_readTwo_252 (by rfl) rfl ?_
                            refine v_iload fx 0 dX8_readTwo_253 rfl rfl ?_
                            refine v_iadd fx ((a0 + r_111) + r_119) dX8_readTwo_255 (by rfl) rfl ?_
                            refine v_istore fx [(4, .int (iI ((a0 + r_111) + r_119))), (10, .int (iI r_119)), (9, .int (iI r_111)), (8, .int (iI a0)), (7, .int (iI b)), (6, .int (iI q)), (0, .ref h0), (1, .int (iI y)), (2, .int (iI ba)), (3, .int (iI ab)), (5, .int (iI bk))] dX8_readTwo_256 (by decide) rfl rfl ?_
                            refine v_goto fx 329 dX8_readTwo_258 (by decide) ?_
                            refine v_goto fx 6 dX8_readTwo_329 (by decide) ?_
                            refine v_ws [6, 2, 3, 4, 5, 7, 0, 1] [(h0, ob 8 [.ref xa, .ref xb, .ref xc, .ref xd, .ref xe, .ref xf, .ref xg, .int (iI vc), .int (iI vk), .int (iI vw), .ref xm, .ref xv, .int (iI vg), .ref xw, .int (iI vb), .int (iI vi), .ref xq, .int (iI ve), .int (iI vf), .int (iI vu), .int (iI vl), .ref xr, .ref xh, .ref xo, .ref xp, .int (iI vr), .int (iI a2_120), .int (iI vt), .int (iI vm), .int (iI d2_121), .int (iI x2_5)]), (xw, aI g 72000 f), (xq, aI g 2000 fq), (xf, aI g 16384 fw), (xg, aI g 16384 fb), (xr, aZ g 75000 f2_129), (xo, aI g 75100 f_97), (xp, aI g 25 f_99)] rfl rfl ?_
                            refine v_lv [6, 7, 8, 9, 0, 10] [(0, .ref h0), (1, .int (iI y)), (2, .int (iI ba)), (3, .int (iI ab)), (4, .int (iI ((a0 + r_111) + r_119))), (5, .int (iI bk))] rfl ?_
                            exact ihL6 ((a0 + r_111) + r_119) bk a2_120 d2_121 x2_5 f2_129 f_97 f_99 (by omega) (by omega) (by omega) (by omega) (by omega) (by first | exact hmC | exact hi6_5) (by omega)
                      ·
                        refine v_iconst fx dX8_readTwo_179 rfl ?_
                        refine v_goto fx 184 dX8_readTwo_180 (by decide) ?_
                        refine v_aload_n fx 4 dX8_readTwo_184 rfl rfl ?_
                        refine v_get fx 3 9 inX8 k1005 dX8_readTwo_185 rfl rfl (by decide) rfl rfl rfl ?_
                        refine v_iload fx 1 dX8_readTwo_188 rfl rfl ?_
                        refine v_isub fx (vw - a0) dX8_readTwo_190 (by rfl) rfl ?_
                        refine v_iload fx 0 dX8_readTwo_191 rfl rfl ?_
                        refine v_isub fx ((vw - a0) - r_111) dX8_readTwo_193 (by rfl) rfl ?_
                        refine v_callV (As := [.int (iI 1), .int (iI ((vw - a0) - r_111))]) (rest := []) fx [3, 4, 5, 6, 7] [0, 1, 2] [(h0, ob 8 [.ref xa, .ref xb, .ref xc, .ref xd, .ref xe, .ref xf, .ref xg, .int (iI vc), .int (iI vk), .int (iI vw), .ref xm, .ref xv, .int (iI vg), .ref xw, .int (iI vb), .int (iI vi), .ref xq, .int (iI ve), .int (iI vf), .int (iI vu), .int (iI vl), .ref xr, .ref xh, .ref xo, .ref xp, .int (iI vr), .int (iI a2_112), .int (iI vt), .int (iI vm), .int (iI d2_113), .int (iI x2_5)]), (xw, aI g 72000 f), (xq, aI g 2000 fq), (xf, aI g 16384 fw), (xg, aI g 16384 fb)] [(xo, aI g 75100 f_97), (xp, aI g 25 f_99), (xr, aZ g 75000 f1)] 2 0 (c_X8_readRun l g h0 xa xb xc xd xe xf xg xm xv xw xq xr xh xo xp vc vk vw vg vb vi ve vf vu vl vr a2_112 vt vm d2_113 x2_5 f fq fw fb 1 ((vw - a0) - r_111) (by first | omega | decide | assumption) (by first | omega | decide | assumption) (by first | omega | decide | assumption) (by first | omega | decide | assumption) (by first | omega | decide | assumption) (by first | omega | decide | assumption) (by first | omega | decide | assumption) (by first | omega | decide | assumption) (by first | omega | decide | assumption) (by first | omega | decide | assumption)) dX8_readTwo_194 k1182 k1184 k38 k57 k1185 ykX8_readRun rfl rfl rfl rfl rfl rfl rfl rfl (nl rfl) ⟨nl rfl, nl rfl⟩ ⟨(nl rfl), (nl rfl)⟩ rfl (fun v9 w9 hu => ?_)
                        obtain ⟨r_130, a2_131, d2_132, rfl, rfl, u_133, u_134, u_135⟩ := hu
                        refine v_is (wn := [(xo, aI g 75100 f_97), (xp, aI g 25 f_99), (xr, aZ g 75000 f1), (h0, ob 8 [.ref xa, .ref xb, .ref xc, .ref xd, .ref xe, .ref xf, .ref xg, .int (iI vc), .int (iI vk), .int (iI vw), .ref xm, .ref xv, .int (iI vg), .ref xw, .int (iI vb), .int (iI vi), .ref xq, .int (iI ve), .int (iI vf), .int (iI vu), .int (iI vl), .ref xr, .ref xh, .ref xo, .ref xp, .int (iI vr), .int (iI a2_131), .int (iI vt), .int (iI vm), .int (iI d2_132), .int (iI x2_5)]), (xw, aI g 72000 f), (xq, aI g 2000 fq), (xf, aI g 16384 fw), (xg, aI g 16384 fb)]) (cn := 0) (sn := 0) (sn2 := [.int (iI r_130)]) rfl rfl rfl rfl ?_
                        refine v_istore fx [(10, .int (iI r_130)), (9, .int (iI r_111)), (8, .int (iI a0)), (7, .int (iI b)), (6, .int (iI q)), (0, .ref h0), (1, .int (iI y)), (2, .int (iI ba)), (3, .int (iI ab)), (4, .int (iI a0)), (5, .int (iI bk))] dX8_readTwo_197 (by decide) rfl rfl ?_
                        refine v_aload_n fx 5 dX8_readTwo_199 rfl rfl ?_
                        refine v_get fx 3 29 inX8 k1025 dX8_readTwo_200 rfl rfl (by decide) rfl rfl rfl ?_
                        refine v_if_ne fx 258 dX8_readTwo_203 (by decide) rfl (by omega) (fun h_136 => ?_) (fun h_136 => ?_)
                        ·
                          refine v_goto fx 329 dX8_readTwo_258 (by decide) ?_
                          refine v_goto fx 6 dX8_readTwo_329 (by decide) ?_
                          refine v_ws [3, 4, 5, 6, 7, 2, 0, 1] [(h0, ob 8 [.ref xa, .ref xb, .ref xc, .ref xd, .ref xe, .ref xf, .ref xg, .int (iI vc), .int (iI vk), .int (iI vw), .ref xm, .ref xv, .int (iI vg), .ref xw, .int (iI vb), .int (iI vi), .ref xq, .int (iI ve), .int (iI vf), .int (iI vu), .int (iI vl), .ref xr, .ref xh, .ref xo, .ref xp, .int (iI vr), .int (iI a2_131), .int (iI vt), .int (iI vm), .int (iI d2_132), .int (iI x2_5)]), (xw, aI g 72000 f), (xq, aI g 2000 fq), (xf, aI g 16384 fw), (xg, aI g 16384 fb), (xr, aZ g 75000 f1), (xo, aI g 75100 f_97), (xp, aI g 25 f_99)] rfl rfl ?_
                          refine v_lv [5, 6, 7, 8, 9, 10] [(0, .ref h0), (1, .int (iI y)), (2, .int (iI ba)), (3, .int (iI ab)), (4, .int (iI a0)), (5, .int (iI bk))] rfl ?_
                          exact ihL6 a0 bk a2_131 d2_132 x2_5 f1 f_97 f_99 (by omega) (by omega) (by omega) (by omega) (by omega) (by first | exact hmC | exact hi6_5) (by omega)
                        ·
                          refine v_aload_n fx 5 dX8_readTwo_206 rfl rfl ?_
                          refine v_iload_n fx 7 dX8_readTwo_207 rfl rfl ?_
                          refine v_iload fx 2 dX8_readTwo_208 rfl rfl ?_
                          refine v_iload fx 2 dX8_readTwo_210 rfl rfl ?_
                          refine v_iload fx 1 dX8_readTwo_212 rfl rfl ?_
                          refine v_iadd fx (a0 + r_111) dX8_readTwo_214 (by rfl) rfl ?_
                          refine v_iload fx 10 dX8_readTwo_215 rfl rfl ?_
                          refine v_callV (As := [.int (iI ba), .int (iI a0), .int (iI (a0 + r_111)), .int (iI bk)]) (rest := []) fx [3, 2] [0, 1, 4, 5, 6, 7] [(h0, ob 8 [.ref xa, .ref xb, .ref xc, .ref xd, .ref xe, .ref xf, .ref xg, .int (iI vc), .int (iI vk), .int (iI vw), .ref xm, .ref xv, .int (iI vg), .ref xw, .int (iI vb), .int (iI vi), .ref xq, .int (iI ve), .int (iI vf), .int (iI vu), .int (iI vl), .ref xr, .ref xh, .ref xo, .ref xp, .int (iI vr), .int (iI a2_131), .int (iI vt), .int (iI vm), .int (iI d2_132), .int (iI x2_5)]), (xr, aZ g 75000 f1)] [(xo, aI g 75100 f_97), (xp, aI g 25 f_99), (xw, aI g 72000 f), (xq, aI g 2000 fq), (xf, aI g 16384 fw), (xg, aI g 16384 fb)] 4 0 (c_X8_paint l g h0 xa xb xc xd xe xf xg xm xv xw xq xr xh xo xp vc vk vw vg vb vi ve vf vu vl vr a2_131 vt vm d2_132 x2_5 f1 ba a0 (a0 + r_111) bk (by first | omega | decide | assumption) (by first | omega | decide | assumption) (by first | omega | decide | assumption)) dX8_readTwo_217 k1174 k1176 k36 k57 k1177 ykX8_paint rfl rfl rfl rfl rfl rfl rfl rfl (nl rfl) ⟨nl rfl, nl rfl⟩ ⟨(nl rfl), (nl rfl)⟩ rfl (fun v9 w9 hu => ?_)
                          obtain ⟨f2_137, rfl, rfl⟩ := hu
                          refine v_is (wn := [(xo, aI g 75100 f_97), (xp, aI g 25 f_99), (xw, aI g 72000 f), (xq, aI g 2000 fq), (xf, aI g 16384 fw), (xg, aI g 16384 fb), (h0, ob 8 [.ref xa, .ref xb, .ref xc, .ref xd, .ref xe, .ref xf, .ref xg, .int (iI vc), .int (iI vk), .int (iI vw), .ref xm, .ref xv, .int (iI vg), .ref xw, .int (iI vb), .int (iI vi), .ref xq, .int (iI ve), .int (iI vf), .int (iI vu), .int (iI vl), .ref xr, .ref xh, .ref xo, .ref xp, .int (iI vr), .int (iI a2_131), .int (iI vt), .int (iI vm), .int (iI d2_132), .int (iI x2_5)]), (xr, aZ g 75000 f2_137)]) (cn := 0) (sn := 0) (sn2 := []) rfl rfl rfl rfl ?_
                          refine v_aload_n fx 5 dX8_readTwo_220 rfl rfl ?_
                          refine v_iload_n fx 7 dX8_readTwo_221 rfl rfl ?_
                          refine v_iload fx 2 dX8_readTwo_222 rfl rfl ?_
                          refine v_iload fx 1 dX8_readTwo_224 rfl rfl ?_
                          refine v_iadd fx (a0 + r_111) dX8_readTwo_226 (by rfl) rfl ?_
                          refine v_iload fx 2 dX8_readTwo_227 rfl rfl ?_
                          refine v_iload fx 1 dX8_readTwo_229 rfl rfl ?_
                          refine v_iadd fx (a0 + r_111) dX8_readTwo_231 (by rfl) rfl ?_
                          refine v_iload fx 0 dX8_readTwo_232 rfl rfl ?_
                          refine v_iadd fx ((a0 + r_111) + r_130) dX8_readTwo_234 (by rfl) rfl ?_
                          refine v_iload fx 10 dX8_readTwo_235 rfl rfl ?_
                          refine v_if_ne fx 244 dX8_readTwo_237 (by decide) rfl (by omega) (fun h_138 => ?_) (fun h_138 => ?_)
                          ·
                            refine v_iconst fx dX8_readTwo_244 rfl ?_
                            refine v_callV (As := [.int (iI ba), .int (iI (a0 + r_111)), .int (iI ((a0 + r_111) + r_130)), .int (iI 0)]) (rest := []) fx [6, 7] [0, 1, 2, 3, 4, 5] [(h0, ob 8 [.ref xa, .ref xb, .ref xc, .ref xd, .ref xe, .ref xf, .ref xg, .int (iI vc), .int (iI vk), .int (iI vw), .ref xm, .ref xv, .int (iI vg), .ref xw, .int (iI vb), .int (iI vi), .ref xq, .int (iI ve), .int (iI vf), .int (iI vu), .int (iI vl), .ref xr, .ref xh, .ref xo, .ref xp, .int (iI vr), .int (iI a2_131), .int (iI vt), .int (iI vm), .int (iI d2_132), .int (iI x2_5)]), (xr, aZ g 75000 f2_137)] [(xo, aI g 75100 f_97), (xp, aI g 25 f_99), (xw, aI g 72000 f), (xq, aI g 2000 fq), (xf, aI g 16384 fw), (xg, aI g 16384 fb)] 4 0 (c_X8_paint l g h0 xa xb xc xd xe xf xg xm xv xw xq xr xh xo xp vc vk vw vg vb vi ve vf vu vl vr a2_131 vt vm d2_132 x2_5 f2_137 ba (a0 + r_111) ((a0 + r_111) + r_130) 0 (by first | omega | decide | assumption) (by first | omega | decide | assumption) (by first | omega | decide | assumption)) dX8_readTwo_245 k1174 k1176 k36 k57 k1177 ykX8_paint rfl rfl rfl rfl rfl rfl rfl rfl (nl rfl) ⟨nl rfl, nl rfl⟩ ⟨(nl rfl), (nl rfl)⟩ rfl (fun v9 w9 hu => ?_)
                            obtain ⟨f2_139, rfl, rfl⟩ := hu
                            refine v_is (wn := [(xo, aI g 75100 f_97), (xp, aI g 25 f_99), (xw, aI g 72000 f), (xq, aI g 2000 fq), (xf, aI g 16384 fw), (xg, aI g 16384 fb), (h0, ob 8 [.ref xa, .ref xb, .ref xc, .ref xd, .ref xe, .ref xf, .ref xg, .int (iI vc), .int (iI vk), .int (iI vw), .ref xm, .ref xv, .int (iI vg), .ref xw, .int (iI vb), .int (iI vi), .ref xq, .int (iI ve), .int (iI vf), .int (iI vu), .int (iI vl), .ref xr, .ref xh, .ref xo, .ref xp, .int (iI vr), .int (iI a2_131), .int (iI vt), .int (iI vm), .int (iI d2_132), .int (iI x2_5)]), (xr, aZ g 75000 f2_139)]) (cn := 0) (sn := 0) (sn2 := []) rfl rfl rfl rfl ?_
                            refine v_iload fx 2 dX8_readTwo_248 rfl rfl ?_
                            refine v_iload fx 1 dX8_readTwo_250 rfl rfl ?_
                            refine v_iadd fx (a0 + r_111) dX8_readTwo_252 (by rfl) rfl ?_
                            refine v_iload fx 0 dX8_readTwo_253 rfl rfl ?_
                            refine v_iadd fx ((a0 + r_111) + r_130) dX8_readTwo_255 (by rfl) rfl ?_
                            refine v_istore fx [(4, .int (iI ((a0 + r_111) + r_130))), (10, .int (iI r_130)), (9, .int (iI r_111)), (8, .int (iI a0)), (7, .int (iI b)), (6, .int (iI q)), (0, .ref h0), (1, .int (iI y)), (2, .int (iI ba)), (3, .int (iI ab)), (5, .int (iI bk))] dX8_readTwo_256 (by decide) rfl rfl ?_
                            refine v_goto fx 329 dX8_readTwo_258 (by decide) ?_
                            refine v_goto fx 6 dX8_readTwo_329 (by decide) ?_
                            refine v_ws [6, 2, 3, 4, 5, 7, 0, 1] [(h0, ob 8 [.ref xa, .ref xb, .ref xc, .ref xd, .ref xe, .ref xf, .ref xg, .int (iI vc), .int (iI vk), .int (iI vw), .ref xm, .ref xv, .int (iI vg), .ref xw, .int (iI vb), .int (iI vi), .ref xq, .int (iI ve), .int (iI vf), .int (iI vu), .int (iI vl), .ref xr, .ref xh, .ref xo, .ref xp, .int (iI vr), .int (iI a2_131), .int (iI vt), .int (iI vm), .int (iI d2_132), .int (iI x2_5)]), (xw, aI g 72000 f), (xq, aI g 2000 fq), (xf, aI g 16384 fw), (xg, aI g 16384 fb), (xr, aZ g 75000 f2_139), (xo, aI g 75100 f_97), (xp, aI g 25 f_99)] rfl rfl ?_
                            refine v_lv [6, 7, 8, 9, 0, 10] [(0, .ref h0), (1, .int (iI y)), (2, .int (iI ba)), (3, .int (iI ab)), (4, .int (iI ((a0 + r_111) + r_130))), (5, .int (iI bk))] rfl ?_
                            exact ihL6 ((a0 + r_111) + r_130) bk a2_131 d2_132 x2_5 f2_139 f_97 f_99 (by omega) (by omega) (by omega) (by omega) (by omega) (by first | exact hmC | exact hi6_5) (by omega)
                          ·
                            refine v_iconst fx dX8_readTwo_240 rfl ?_
                            refine v_goto fx 245 dX8_readTwo_241 (by decide) ?_
                            refine v_callV (As := [.int (iI ba), .int (iI (a0 + r_111)), .int (iI ((a0 + r_111) + r_130)), .int (iI 1)]) (rest := []) fx [6, 7] [0, 1, 2, 3, 4, 5] [(h0, ob 8 [.ref xa, .ref xb, .ref xc, .ref xd, .ref xe, .ref xf, .ref xg, .int (iI vc), .int (iI vk), .int (iI vw), .ref xm, .ref xv, .int (iI vg), .ref xw, .int (iI vb), .int (iI vi), .ref xq, .int (iI ve), .int (iI vf), .int (iI vu), .int (iI vl), .ref xr, .ref xh, .ref xo, .ref xp, .int (iI vr), .int (iI a2_131), .int (iI vt), .int (iI vm), .int (iI d2_132), .int (iI x2_5)]), (xr, aZ g 75000 f2_137)] [(xo, aI g 75100 f_97), (xp, aI g 25 f_99), (xw, aI g 72000 f), (xq, aI g 2000 fq), (xf, aI g 16384 fw), (xg, aI g 16384 fb)] 4 0 (c_X8_paint l g h0 xa xb xc xd xe xf xg xm xv xw xq xr xh xo xp vc vk vw vg vb vi ve vf vu vl vr a2_131 vt vm d2_132 x2_5 f2_137 ba (a0 + r_111) ((a0 + r_111) + r_130) 1 (by first | omega | decide | assumption) (by first | omega | decide | assumption) (by first | omega | decide | assumption)) dX8_readTwo_245 k1174 k1176 k36 k57 k1177 ykX8_paint rfl rfl rfl rfl rfl rfl rfl rfl (nl rfl) ⟨nl rfl, nl rfl⟩ ⟨(nl rfl), (nl rfl)⟩ rfl (fun v9 w9 hu => ?_)
                            obtain ⟨f2_140, rfl, rfl⟩ := hu
                            refine v_is (wn := [(xo, aI g 75100 f_97), (xp, aI g 25 f_99), (xw, aI g 72000 f), (xq, aI g 2000 fq), (xf, aI g 16384 fw), (xg, aI g 16384 fb), (h0, ob 8 [.ref xa, .ref xb, .ref xc, .ref xd, .ref xe, .ref xf, .ref xg, .int (iI vc), .int (iI vk), .int (iI vw), .ref xm, .ref xv, .int (iI vg), .ref xw, .int (iI vb), .int (iI vi), .ref xq, .int (iI ve), .int (iI vf), .int (iI vu), .int (iI vl), .ref xr, .ref xh, .ref xo, .ref xp, .int (iI vr), .int (iI a2_131), .int (iI vt), .int (iI vm), .int (iI d2_132), .int (iI x2_5)]), (xr, aZ g 75000 f2_140)]) (cn := 0) (sn := 0) (sn2 := []) rfl rfl rfl rfl ?_
                            refine v_iload fx 2 dX8_readTwo_248 rfl rfl ?_
                            refine v_iload fx 1 dX8_readTwo_250 rfl rfl ?_
                            refine v_iadd fx (a0 + r_111) dX8_readTwo_252 (by rfl) rfl ?_
                            refine v_iload fx 0 dX8_readTwo_253 rfl rfl ?_
                            refine v_iadd fx ((a0 + r_111) + r_130) dX8_readTwo_255 (by rfl) rfl ?_
                            refine v_istore fx [(4, .int (iI ((a0 + r_111) + r_130))), (10, .int (iI r_130)), (9, .int (iI r_111)), (8, .int (iI a0)), (7, .int (iI b)), (6, .int (iI q)), (0, .ref h0), (1, .int (iI y)), (2, .int (iI ba)), (3, .int (iI ab)), (5, .int (iI bk))] dX8_readTwo_256 (by decide) rfl rfl ?_
                            refine v_goto fx 329 dX8_readTwo_258 (by decide) ?_
                            refine v_goto fx 6 dX8_readTwo_329 (by decide) ?_
                            refine v_ws [6, 2, 3, 4, 5, 7, 0, 1] [(h0, ob 8 [.ref xa, .ref xb, .ref xc, .ref xd, .ref xe, .ref xf, .ref xg, .int (iI vc), .int (iI vk), .int (iI vw), .ref xm, .ref xv, .int (iI vg), .ref xw, .int (iI vb), .int (iI vi), .ref xq, .int (iI ve), .int (iI vf), .int (iI vu), .int (iI vl), .ref xr, .ref xh, .ref xo, .ref xp, .int (iI vr), .int (iI a2_131), .int (iI vt), .int (iI vm), .int (iI d2_132), .int (iI x2_5)]), (xw, aI g 72000 f), (xq, aI g 2000 fq), (xf, aI g 16384 fw), (xg, aI g 16384 fb), (xr, aZ g 75000 f2_140), (xo, aI g 75100 f_97), (xp, aI g 25 f_99)] rfl rfl ?_
                            refine v_lv [6, 7, 8, 9, 0, 10] [(0, .ref h0), (1, .int (iI y)), (2, .int (iI ba)), (3, .int (iI ab)), (4, .int (iI ((a0 + r_111) + r_130))), (5, .int (iI bk))] rfl ?_
                            exact ihL6 ((a0 + r_111) + r_130) bk a2_131 d2_132 x2_5 f2_140 f_97 f_99 (by omega) (by omega) (by omega) (by omega) (by omega) (by first | exact hmC | exact hi6_5) (by omega)
                    ·
                      refine v_iconst fx dX8_readTwo_169 rfl ?_
                      refine v_goto fx 197 dX8_readTwo_170 (by decide) ?_
                      refine v_istore fx [(10, .int (iI 0)), (9, .int (iI r_111)), (8, .int (iI a0)), (7, .int (iI b)), (6, .int (iI q)), (0, .ref h0), (1, .int (iI y)), (2, .int (iI ba)), (3, .int (iI ab)), (4, .int (iI a0)), (5, .int (iI bk))] dX8_readTwo_197 (by decide) rfl rfl ?_
                      refine v_aload_n fx 5 dX8_readTwo_199 rfl rfl ?_
                      refine v_get fx 3 29 inX8 k1025 dX8_readTwo_200 rfl rfl (by decide) rfl rfl rfl ?_
                      refine v_if_ne fx 258 dX8_readTwo_203 (by decide) rfl (by omega) (fun h_141 => ?_) (fun h_141 => ?_)
                      ·
                        refine v_goto fx 329 dX8_readTwo_258 (by decide) ?_
                        refine v_goto fx 6 dX8_readTwo_329 (by decide) ?_
                        refine v_ws [3, 4, 5, 6, 7, 2, 0, 1] [(h0, ob 8 [.ref xa, .ref xb, .ref xc, .ref xd, .ref xe, .ref xf, .ref xg, .int (iI vc), .int (iI vk), .int (iI vw), .ref xm, .ref xv, .int (iI vg), .ref xw, .int (iI vb), .int (iI vi), .ref xq, .int (iI ve), .int (iI vf), .int (iI vu), .int (iI vl), .ref xr, .ref xh, .ref xo, .ref xp, .int (iI vr), .int (iI a2_112), .int (iI vt), .int (iI vm), .int (iI d2_113), .int (iI x2_5)]), (xw, aI g 72000 f), (xq, aI g 2000 fq), (xf, aI g 16384 fw), (xg, aI g 16384 fb), (xr, aZ g 75000 f1), (xo, aI g 75100 f_97), (xp, aI g 25 f_99)] rfl rfl ?_
                        refine v_lv [5, 6, 7, 8, 9, 10] [(0, .ref h0), (1, .int (iI y)), (2, .int (iI ba)), (3, .int (iI ab)), (4, .int (iI a0)), (5, .int (iI bk))] rfl ?_
                        exact ihL6 a0 bk a2_112 d2_113 x2_5 f1 f_97 f_99 (by omega) (by omega) (by omega) (by omega) (by omega) (by first | exact hmC | exact hi6_5) (by omega)
                      ·
                        refine v_aload_n fx 5 dX8_readTwo_206 rfl rfl ?_
                        refine v_iload_n fx 7 dX8_readTwo_207 rfl rfl ?_
                        refine v_iload fx 2 dX8_readTwo_208 rfl rfl ?_
                        refine v_iload fx 2 dX8_readTwo_210 rfl rfl ?_
                        refine v_iload fx 1 dX8_readTwo_212 rfl rfl ?_
                        refine v_iadd fx (a0 + r_111) dX8_readTwo_214 (by rfl) rfl ?_
                        refine v_iload fx 10 dX8_readTwo_215 rfl rfl ?_
                        refine v_callV (As := [.int (iI ba), .int (iI a0), .int (iI (a0 + r_111)), .int (iI bk)]) (rest := []) fx [3, 2] [0, 1, 4, 5, 6, 7] [(h0, ob 8 [.ref xa, .ref xb, .ref xc, .ref xd, .ref xe, .ref xf, .ref xg, .int (iI vc), .int (iI vk), .int (iI vw), .ref xm, .ref xv, .int (iI vg), .ref xw, .int (iI vb), .int (iI vi), .ref xq, .int (iI ve), .int (iI vf), .int (iI vu), .int (iI vl), .ref xr, .ref xh, .ref xo, .ref xp, .int (iI vr), .int (iI a2_112), .int (iI vt), .int (iI vm), .int (iI d2_113), .int (iI x2_5)]), (xr, aZ g 75000 f1)] [(xo, aI g 75100 f_97), (xp, aI g 25 f_99), (xw, aI g 72000 f), (xq, aI g 2000 fq), (xf, aI g 16384 fw), (xg, aI g 16384 fb)] 4 0 (c_X8_paint l g h0 xa xb xc xd xe xf xg xm xv xw xq xr xh xo xp vc vk vw vg vb vi ve vf vu vl vr a2_112 vt vm d2_113 x2_5 f1 ba a0 (a0 + r_111) bk (by first | omega | decide | assumption) (by first | omega | decide | assumption) (by first | omega | decide | assumption)) dX8_readTwo_217 k1174 k1176 k36 k57 k1177 ykX8_paint rfl rfl rfl rfl rfl rfl rfl rfl (nl rfl) ⟨nl rfl, nl rfl⟩ ⟨(nl rfl), (nl rfl)⟩ rfl (fun v9 w9 hu => ?_)
                        obtain ⟨f2_142, rfl, rfl⟩ := hu
                        refine v_is (wn := [(xo, aI g 75100 f_97), (xp, aI g 25 f_99), (xw, aI g 72000 f), (xq, aI g 2000 fq), (xf, aI g 16384 fw), (xg, aI g 16384 fb), (h0, ob 8 [.ref xa, .ref xb, .ref xc, .ref xd, .ref xe, .ref xf, .ref xg, .int (iI vc), .int (iI vk), .int (iI vw), .ref xm, .ref xv, .int (iI vg), .ref xw, .int (iI vb), .int (iI vi), .ref xq, .int (iI ve), .int (iI vf), .int (iI vu), .int (iI vl), .ref xr, .ref xh, .ref xo, .ref xp, .int (iI vr), .int (iI a2_112), .int (iI vt), .int (iI vm), .int (iI d2_113), .int (iI x2_5)]), (xr, aZ g 75000 f2_142)]) (cn := 0) (sn := 0) (sn2 := []) rfl rfl rfl rfl ?_
                        refine v_aload_n fx 5 dX8_readTwo_220 rfl rfl ?_
                        refine v_iload_n fx 7 dX8_readTwo_221 rfl rfl ?_
                        refine v_iload fx 2 dX8_readTwo_222 rfl rfl ?_
                        refine v_iload fx 1 dX8_readTwo_224 rfl rfl ?_
                        refine v_iadd fx (a0 + r_111) dX8_readTwo_226 (by rfl) rfl ?_
                        refine v_iload fx 2 dX8_readTwo_227 rfl rfl ?_
                        refine v_iload fx 1 dX8_readTwo_229 rfl rfl ?_
                        refine v_iadd fx (a0 + r_111) dX8_readTwo_231 (by rfl) rfl ?_
                        refine v_iload fx 0 dX8_readTwo_232 rfl rfl ?_
                        refine v_iadd fx ((a0 + r_111) + 0) dX8_readTwo_234 (by rfl) rfl ?_
                        refine v_iload fx 10 dX8_readTwo_235 rfl rfl ?_
                        refine v_if_ne fx 244 dX8_readTwo_237 (by decide) rfl (by omega) (fun h_143 => ?_) (fun h_143 => ?_)
                        ·
                          refine v_iconst fx dX8_readTwo_244 rfl ?_
                          refine v_callV (As := [.int (iI ba), .int (iI (a0 + r_111)), .int (iI ((a0 + r_111) + 0)), .int (iI 0)]) (rest := []) fx [6, 7] [0, 1, 2, 3, 4, 5] [(h0, ob 8 [.ref xa, .ref xb, .ref xc, .ref xd, .ref xe, .ref xf, .ref xg, .int (iI vc), .int (iI vk), .int (iI vw), .ref xm, .ref xv, .int (iI vg), .ref xw, .int (iI vb), .int (iI vi), .ref xq, .int (iI ve), .int (iI vf), .int (iI vu), .int (iI vl), .ref xr, .ref xh, .ref xo, .ref xp, .int (iI vr), .int (iI a2_112), .int (iI vt), .int (iI vm), .int (iI d2_113), .int (iI x2_5)]), (xr, aZ g 75000 f2_142)] [(xo, aI g 75100 f_97), (xp, aI g 25 f_99), (xw, aI g 72000 f), (xq, aI g 2000 fq), (xf, aI g 16384 fw), (xg, aI g 16384 fb)] 4 0 (c_X8_paint l g h0 xa xb xc xd xe xf xg xm xv xw xq xr xh xo xp vc vk vw vg vb vi ve vf vu vl vr a2_112 vt vm d2_113 x2_5 f2_142 ba (a0 + r_111) ((a0 + r_111) + 0) 0 (by first | omega | decide | assumption) (by first | omega | decide | assumption) (by first | omega | decide | assumption)) dX8_readTwo_245 k1174 k1176 k36 k57 k1177 ykX8_paint rfl rfl rfl rfl rfl rfl rfl rfl (nl rfl) ⟨nl rfl, nl rfl⟩ ⟨(nl rfl), (nl rfl)⟩ rfl (fun v9 w9 hu => ?_)
                          obtain ⟨f2_144, rfl, rfl⟩ := hu
                          refine v_is (wn := [(xo, aI g 75100 f_97), (xp, aI g 25 f_99), (xw, aI g 72000 f), (xq, aI g 2000 fq), (xf, aI g 16384 fw), (xg, aI g 16384 fb), (h0, ob 8 [.ref xa, .ref xb, .ref xc, .ref xd, .ref xe, .ref xf, .ref xg, .int (iI vc), .int (iI vk), .int (iI vw), .ref xm, .ref xv, .int (iI vg), .ref xw, .int (iI vb), .int (iI vi), .ref xq, .int (iI ve), .int (iI vf), .int (iI vu), .int (iI vl), .ref xr, .ref xh, .ref xo, .ref xp, .int (iI vr), .int (iI a2_112), .int (iI vt), .int (iI vm), .int (iI d2_113), .int (iI x2_5)]), (xr, aZ g 75000 f2_144)]) (cn := 0) (sn := 0) (sn2 := []) rfl rfl rfl rfl ?_
                          refine v_iload fx 2 dX8_readTwo_248 rfl rfl ?_
                          refine v_iload fx 1 dX8_readTwo_250 rfl rfl ?_
                          refine v_iadd fx (a0 + r_111) dX8_readTwo_252 (by rfl) rfl ?_
                          refine v_iload fx 0 dX8_readTwo_253 rfl rfl ?_
                          refine v_iadd fx ((a0 + r_111) + 0) dX8_readTwo_255 (by rfl) rfl ?_
                          refine v_istore fx [(4, .int (iI ((a0 + r_111) + 0))), (10, .int (iI 0)), (9, .int (iI r_111)), (8, .int (iI a0)), (7, .int (iI b)), (6, .int (iI q)), (0, .ref h0), (1, .int (iI y)), (2, .int (iI ba)), (3, .int (iI ab)), (5, .int (iI bk))] dX8_readTwo_256 (by decide) rfl rfl ?_
                          refine v_goto fx 329 dX8_readTwo_258 (by decide) ?_
                          refine v_goto fx 6 dX8_readTwo_329 (by decide) ?_
                          refine v_ws [6, 2, 3, 4, 5, 7, 0, 1] [(h0, ob 8 [.ref xa, .ref xb, .ref xc, .ref xd, .ref xe, .ref xf, .ref xg, .int (iI vc), .int (iI vk), .int (iI vw), .ref xm, .ref xv, .int (iI vg), .ref xw, .int (iI vb), .int (iI vi), .ref xq, .int (iI ve), .int (iI vf), .int (iI vu), .int (iI vl), .ref xr, .ref xh, .ref xo, .ref xp, .int (iI vr), .int (iI a2_112), .int (iI vt), .int (iI vm), .int (iI d2_113), .int (iI x2_5)]), (xw, aI g 72000 f), (xq, aI g 2000 fq), (xf, aI g 16384 fw), (xg, aI g 16384 fb), (xr, aZ g 75000 f2_144), (xo, aI g 75100 f_97), (xp, aI g 25 f_99)] rfl rfl ?_
                          refine v_lv [6, 7, 8, 9, 0, 10] [(0, .ref h0), (1, .int (iI y)), (2, .int (iI ba)), (3, .int (iI ab)), (4, .int (iI ((a0 + r_111) + 0))), (5, .int (iI bk))] rfl ?_
                          exact ihL6 ((a0 + r_111) + 0) bk a2_112 d2_113 x2_5 f2_144 f_97 f_99 (by omega) (by omega) (by omega) (by omega) (by omega) (by first | exact hmC | exact hi6_5) (by omega)
                        ·
                          refine v_iconst fx dX8_readTwo_240 rfl ?_
                          refine v_goto fx 245 dX8_readTwo_241 (by decide) ?_
                          refine v_callV (As := [.int (iI ba), .int (iI (a0 + r_111)), .int (iI ((a0 + r_111) + 0)), .int (iI 1)]) (rest := []) fx [6, 7] [0, 1, 2, 3, 4, 5] [(h0, ob 8 [.ref xa, .ref xb, .ref xc, .ref xd, .ref xe, .ref xf, .ref xg, .int (iI vc), .int (iI vk), .int (iI vw), .ref xm, .ref xv, .int (iI vg), .ref xw, .int (iI vb), .int (iI vi), .ref xq, .int (iI ve), .int (iI vf), .int (iI vu), .int (iI vl), .ref xr, .ref xh, .ref xo, .ref xp, .int (iI vr), .int (iI a2_112), .int (iI vt), .int (iI vm), .int (iI d2_113), .int (iI x2_5)]), (xr, aZ g 75000 f2_142)] [(xo, aI g 75100 f_97), (xp, aI g 25 f_99), (xw, aI g 72000 f), (xq, aI g 2000 fq), (xf, aI g 16384 fw), (xg, aI g 16384 fb)] 4 0 (c_X8_paint l g h0 xa xb xc xd xe xf xg xm xv xw xq xr xh xo xp vc vk vw vg vb vi ve vf vu vl vr a2_112 vt vm d2_113 x2_5 f2_142 ba (a0 + r_111) ((a0 + r_111) + 0) 1 (by first | omega | decide | assumption) (by first | omega | decide | assumption) (by first | omega | decide | assumption)) dX8_readTwo_245 k1174 k1176 k36 k57 k1177 ykX8_paint rfl rfl rfl rfl rfl rfl rfl rfl (nl rfl) ⟨nl rfl, nl rfl⟩ ⟨(nl rfl), (nl rfl)⟩ rfl (fun v9 w9 hu => ?_)
                          obtain ⟨f2_145, rfl, rfl⟩ := hu
                          refine v_is (wn := [(xo, aI g 75100 f_97), (xp, aI g 25 f_99), (xw, aI g 72000 f), (xq, aI g 2000 fq), (xf, aI g 16384 fw), (xg, aI g 16384 fb), (h0, ob 8 [.ref xa, .ref xb, .ref xc, .ref xd, .ref xe, .ref xf, .ref xg, .int (iI vc), .int (iI vk), .int (iI vw), .ref xm, .ref xv, .int (iI vg), .ref xw, .int (iI vb), .int (iI vi), .ref xq, .int (iI ve), .int (iI vf), .int (iI vu), .int (iI vl), .ref xr, .ref xh, .ref xo, .ref xp, .int (iI vr), .int (iI a2_112), .int (iI vt), .int (iI vm), .int (iI d2_113), .int (iI x2_5)]), (xr, aZ g 75000 f2_145)]) (cn := 0) (sn := 0) (sn2 := []) rfl rfl rfl rfl ?_
                          refine v_iload fx 2 dX8_readTwo_248 rfl rfl ?_
                          refine v_iload fx 1 dX8_readTwo_250 rfl rfl ?_
                          refine v_iadd fx (a0 + r_111) dX8_readTwo_252 (by rfl) rfl ?_
                          refine v_iload fx 0 dX8_readTwo_253 rfl rfl ?_
                          refine v_iadd fx ((a0 + r_111) + 0) dX8_readTwo_255 (by rfl) rfl ?_
                          refine v_istore fx [(4, .int (iI ((a0 + r_111) + 0))), (10, .int (iI 0)), (9, .int (iI r_111)), (8, .int (iI a0)), (7, .int (iI b)), (6, .int (iI q)), (0, .ref h0), (1, .int (iI y)), (2, .int (iI ba)), (3, .int (iI ab)), (5, .int (iI bk))] dX8_readTwo_256 (by decide) rfl rfl ?_
                          refine v_goto fx 329 dX8_readTwo_258 (by decide) ?_
                          refine v_goto fx 6 dX8_readTwo_329 (by decide) ?_
                          refine v_ws [6, 2, 3, 4, 5, 7, 0, 1] [(h0, ob 8 [.ref xa, .ref xb, .ref xc, .ref xd, .ref xe, .ref xf, .ref xg, .int (iI vc), .int (iI vk), .int (iI vw), .ref xm, .ref xv, .int (iI vg), .ref xw, .int (iI vb), .int (iI vi), .ref xq, .int (iI ve), .int (iI vf), .int (iI vu), .int (iI vl), .ref xr, .ref xh, .ref xo, .ref xp, .int (iI vr), .int (iI a2_112), .int (iI vt), .int (iI vm), .int (iI d2_113), .int (iI x2_5)]), (xw, aI g 72000 f), (xq, aI g 2000 fq), (xf, aI g 16384 fw), (xg, aI g 16384 fb), (xr, aZ g 75000 f2_145), (xo, aI g 75100 f_97), (xp, aI g 25 f_99)] rfl rfl ?_
                          refine v_lv [6, 7, 8, 9, 0, 10] [(0, .ref h0), (1, .int (iI y)), (2, .int (iI ba)), (3, .int (iI ab)), (4, .int (iI ((a0 + r_111) + 0))), (5, .int (iI bk))] rfl ?_
                          exact ihL6 ((a0 + r_111) + 0) bk a2_112 d2_113 x2_5 f2_145 f_97 f_99 (by omega) (by omega) (by omega) (by omega) (by omega) (by first | exact hmC | exact hi6_5) (by omega)
                  ·
                    refine v_iconst fx dX8_readTwo_139 rfl ?_
                    refine v_goto fx 145 dX8_readTwo_140 (by decide) ?_
                    refine v_istore fx [(8, .int (iI 0)), (7, .int (iI b)), (6, .int (iI q)), (0, .ref h0), (1, .int (iI y)), (2, .int (iI ba)), (3, .int (iI ab)), (4, .int (iI a0)), (5, .int (iI bk))] dX8_readTwo_145 (by decide) rfl rfl ?_
                    refine v_aload_n fx 3 dX8_readTwo_147 rfl rfl ?_
                    refine v_iload fx 8 dX8_readTwo_148 rfl rfl ?_
                    refine v_aload_n fx 3 dX8_readTwo_150 rfl rfl ?_
                    refine v_get fx 6 9 inX8 k1005 dX8_readTwo_151 rfl rfl (by decide) rfl rfl rfl ?_
                    refine v_iload fx 0 dX8_readTwo_154 rfl rfl ?_
                    refine v_isub fx (vw - 0) dX8_readTwo_156 (by rfl) rfl ?_
                    refine v_callV (As := [.int (iI bk), .int (iI (vw - 0))]) (rest := []) fx [6, 4, 5, 0, 1] [2, 3, 7] [(h0, ob 8 [.ref xa, .ref xb, .ref xc, .ref xd, .ref xe, .ref xf, .ref xg, .int (iI vc), .int (iI vk), .int (iI vw), .ref xm, .ref xv, .int (iI vg), .ref xw, .int (iI vb), .int (iI vi), .ref xq, .int (iI ve), .int (iI vf), .int (iI vu), .int (iI vl), .ref xr, .ref xh, .ref xo, .ref xp, .int (iI vr), .int (iI a2_3), .int (iI vt), .int (iI vm), .int (iI d2_4), .int (iI x2_5)]), (xw, aI g 72000 f), (xq, aI g 2000 fq), (xf, aI g 16384 fw), (xg, aI g 16384 fb)] [(xo, aI g 75100 f_97), (xp, aI g 25 f_99), (xr, aZ g 75000 f1)] 2 0 (c_X8_readRun l g h0 xa xb xc xd xe xf xg xm xv xw xq xr xh xo xp vc vk vw vg vb vi ve vf vu vl vr a2_3 vt vm d2_4 x2_5 f fq fw fb bk (vw - 0) (by first | omega | decide | assumption) (by first | omega | decide | assumption) (by first | omega | decide | assumption) (by first | omega | decide | assumption) (by first | omega | decide | assumption) (by first | omega | decide | assumption) (by first | omega | decide | assumption) (by first | omega | decide | assumption) (by first | omega | decide | assumption) (by first | omega | decide | assumption)) dX8_readTwo_157 k1182 k1184 k38 k57 k1185 ykX8_readRun rfl rfl rfl rfl rfl rfl rfl rfl (nl rfl) ⟨nl rfl, nl rfl⟩ ⟨(nl rfl), (nl rfl)⟩ rfl (fun v9 w9 hu => ?_)
                    obtain ⟨r_146, a2_147, d2_148, rfl, rfl, u_149, u_150, u_151⟩ := hu
                    refine v_is (wn := [(xo, aI g 75100 f_97), (xp, aI g 25 f_99), (xr, aZ g 75000 f1), (h0, ob 8 [.ref xa, .ref xb, .ref xc, .ref xd, .ref xe, .ref xf, .ref xg, .int (iI vc), .int (iI vk), .int (iI vw), .ref xm, .ref xv, .int (iI vg), .ref xw, .int (iI vb), .int (iI vi), .ref xq, .int (iI ve), .int (iI vf), .int (iI vu), .int (iI vl), .ref xr, .ref xh, .ref xo, .ref xp, .int (iI vr), .int (iI a2_147), .int (iI vt), .int (iI vm), .int (iI d2_148), .int (iI x2_5)]), (xw, aI g 72000 f), (xq, aI g 2000 fq), (xf, aI g 16384 fw), (xg, aI g 16384 fb)]) (cn := 0) (sn := 0) (sn2 := [.int (iI r_146)]) rfl rfl rfl rfl ?_
                    refine v_istore fx [(9, .int (iI r_146)), (8, .int (iI 0)), (7, .int (iI b)), (6, .int (iI q)), (0, .ref h0), (1, .int (iI y)), (2, .int (iI ba)), (3, .int (iI ab)), (4, .int (iI a0)), (5, .int (iI bk))] dX8_readTwo_160 (by decide) rfl rfl ?_
                    refine v_aload_n fx 4 dX8_readTwo_162 rfl rfl ?_
                    refine v_get fx 3 29 inX8 k1025 dX8_readTwo_163 rfl rfl (by decide) rfl rfl rfl ?_
                    refine v_if_eq fx 173 dX8_readTwo_166 (by decide) rfl (by omega) (fun h_152 => ?_) (fun h_152 => ?_)
                    ·
                      refine v_aload_n fx 4 dX8_readTwo_173 rfl rfl ?_
                      refine v_iload fx 9 dX8_readTwo_174 rfl rfl ?_
                      refine v_if_ne fx 183 dX8_readTwo_176 (by decide) rfl (by omega) (fun h_153 => ?_) (fun h_153 => ?_)
                      ·
                        refine v_iconst fx dX8_readTwo_183 rfl ?_
                        refine v_aload_n fx 4 dX8_readTwo_184 rfl rfl ?_
                        refine v_get fx 3 9 inX8 k1005 dX8_readTwo_185 rfl rfl (by decide) rfl rfl rfl ?_
                        refine v_iload fx 1 dX8_readTwo_188 rfl rfl ?_
                        refine v_isub fx (vw - 0) dX8_readTwo_190 (by rfl) rfl ?_
                        refine v_iload fx 0 dX8_readTwo_191 rfl rfl ?_
                        refine v_isub fx ((vw - 0) - r_146) dX8_readTwo_193 (by rfl) rfl ?_
                        refine v_callV (As := [.int (iI 0), .int (iI ((vw - 0) - r_146))]) (rest := []) fx [3, 4, 5, 6, 7] [0, 1, 2] [(h0, ob 8 [.ref xa, .ref xb, .ref xc, .ref xd, .ref xe, .ref xf, .ref xg, .int (iI vc), .int (iI vk), .int (iI vw), .ref xm, .ref xv, .int (iI vg), .ref xw, .int (iI vb), .int (iI vi), .ref xq, .int (iI ve), .int (iI vf), .int (iI vu), .int (iI vl), .ref xr, .ref xh, .ref xo, .ref xp, .int (iI vr), .int (iI a2_147), .int (iI vt), .int (iI vm), .int (iI d2_148), .int (iI x2_5)]), (xw, aI g 72000 f), (xq, aI g 2000 fq), (xf, aI g 16384 fw), (xg, aI g 16384 fb)] [(xo, aI g 75100 f_97), (xp, aI g 25 f_99), (xr, aZ g 75000 f1)] 2 0 (c_X8_readRun l g h0 xa xb xc xd xe xf xg xm xv xw xq xr xh xo xp vc vk vw vg vb vi ve vf vu vl vr a2_147 vt vm d2_148 x2_5 f fq fw fb 0 ((vw - 0) - r_146) (by first | omega | decide | assumption) (by first | omega | decide | assumption) (by first | omega | decide | assumption) (by first | omega | decide | assumption) (by first | omega | decide | assumption) (by first | omega | decide | assumption) (by first | omega | decide | assumption) (by first | omega | decide | assumption) (by first | omega | decide | assumption) (by first | omega | decide | assumption)) dX8_readTwo_194 k1182 k1184 k38 k57 k1185 ykX8_readRun rfl rfl rfl rfl rfl rfl rfl rfl (nl rfl) ⟨nl rfl, nl rfl⟩ ⟨(nl rfl), (nl rfl)⟩ rfl (fun v9 w9 hu => ?_)
                        obtain ⟨r_154, a2_155, d2_156, rfl, rfl, u_157, u_158, u_159⟩ := hu
                        refine v_is (wn := [(xo, aI g 75100 f_97), (xp, aI g 25 f_99), (xr, aZ g 75000 f1), (h0, ob 8 [.ref xa, .ref xb, .ref xc, .ref xd, .ref xe, .ref xf, .ref xg, .int (iI vc), .int (iI vk), .int (iI vw), .ref xm, .ref xv, .int (iI vg), .ref xw, .int (iI vb), .int (iI vi), .ref xq, .int (iI ve), .int (iI vf), .int (iI vu), .int (iI vl), .ref xr, .ref xh, .ref xo, .ref xp, .int (iI vr), .int (iI a2_155), .int (iI vt), .int (iI vm), .int (iI d2_156), .int (iI x2_5)]), (xw, aI g 72000 f), (xq, aI g 2000 fq), (xf, aI g 16384 fw), (xg, aI g 16384 fb)]) (cn := 0) (sn := 0) (sn2 := [.int (iI r_154)]) rfl rfl rfl rfl ?_
                        refine v_istore fx [(10, .int (iI r_154)), (9, .int (iI r_146)), (8, .int (iI 0)), (7, .int (iI b)), (6, .int (iI q)), (0, .ref h0), (1, .int (iI y)), (2, .int (iI ba)), (3, .int (iI ab)), (4, .int (iI a0)), (5, .int (iI bk))] dX8_readTwo_197 (by decide) rfl rfl ?_
                        refine v_aload_n fx 5 dX8_readTwo_199 rfl rfl ?_
                        refine v_get fx 3 29 inX8 k1025 dX8_readTwo_200 rfl rfl (by decide) rfl rfl rfl ?_
                        refine v_if_ne fx 258 dX8_readTwo_203 (by decide) rfl (by omega) (fun h_160 => ?_) (fun h_160 => ?_)
                        ·
                          refine v_goto fx 329 dX8_readTwo_258 (by decide) ?_
                          refine v_goto fx 6 dX8_readTwo_329 (by decide) ?_
                          refine v_ws [3, 4, 5, 6, 7, 2, 0, 1] [(h0, ob 8 [.ref xa, .ref xb, .ref xc, .ref xd, .ref xe, .ref xf, .ref xg, .int (iI vc), .int (iI vk), .int (iI vw), .ref xm, .ref xv, .int (iI vg), .ref xw, .int (iI vb), .int (iI vi), .ref xq, .int (iI ve), .int (iI vf), .int (iI vu), .int (iI vl), .ref xr, .ref xh, .ref xo, .ref xp, .int (iI vr), .int (iI a2_155), .int (iI vt), .int (iI vm), .int (iI d2_156), .int (iI x2_5)]), (xw, aI g 72000 f), (xq, aI g 2000 fq), (xf, aI g 16384 fw), (xg, aI g 16384 fb), (xr, aZ g 75000 f1), (xo, aI g 75100 f_97), (xp, aI g 25 f_99)] rfl rfl ?_
                          refine v_lv [5, 6, 7, 8, 9, 10] [(0, .ref h0), (1, .int (iI y)), (2, .int (iI ba)), (3, .int (iI ab)), (4, .int (iI a0)), (5, .int (iI bk))] rfl ?_
                          exact ihL6 a0 bk a2_155 d2_156 x2_5 f1 f_97 f_99 (by omega) (by omega) (by omega) (by omega) (by omega) (by first | exact hmC | exact hi6_5) (by omega)
                        ·
                          refine v_aload_n fx 5 dX8_readTwo_206 rfl rfl ?_
                          refine v_iload_n fx 7 dX8_readTwo_207 rfl rfl ?_
                          refine v_iload fx 2 dX8_readTwo_208 rfl rfl ?_
                          refine v_iload fx 2 dX8_readTwo_210 rfl rfl ?_
                          refine v_iload fx 1 dX8_readTwo_212 rfl rfl ?_
                          refine v_iadd fx (0 + r_146) dX8_readTwo_214 (by rfl) rfl ?_
                          refine v_iload fx 10 dX8_readTwo_215 rfl rfl ?_
                          refine v_callV (As := [.int (iI ba), .int (iI 0), .int (iI (0 + r_146)), .int (iI bk)]) (rest := []) fx [3, 2] [0, 1, 4, 5, 6, 7] [(h0, ob 8 [.ref xa, .ref xb, .ref xc, .ref xd, .ref xe, .ref xf, .ref xg, .int (iI vc), .int (iI vk), .int (iI vw), .ref xm, .ref xv, .int (iI vg), .ref xw, .int (iI vb), .int (iI vi), .ref xq, .int (iI ve), .int (iI vf), .int (iI vu), .int (iI vl), .ref xr, .ref xh, .ref xo, .ref xp, .int (iI vr), .int (iI a2_155), .int (iI vt), .int (iI vm), .int (iI d2_156), .int (iI x2_5)]), (xr, aZ g 75000 f1)] [(xo, aI g 75100 f_97), (xp, aI g 25 f_99), (xw, aI g 72000 f), (xq, aI g 2000 fq), (xf, aI g 16384 fw), (xg, aI g 16384 fb)] 4 0 (c_X8_paint l g h0 xa xb xc xd xe xf xg xm xv xw xq xr xh xo xp vc vk vw vg vb vi ve vf vu vl vr a2_155 vt vm d2_156 x2_5 f1 ba 0 (0 + r_146) bk (by first | omega | decide | assumption) (by first | omega | decide | assumption) (by first | omega | decide | assumption)) dX8_readTwo_217 k1174 k1176 k36 k57 k1177 ykX8_paint rfl rfl rfl rfl rfl rfl rfl rfl (nl rfl) ⟨nl rfl, nl rfl⟩ ⟨(nl rfl), (nl rfl)⟩ rfl (fun v9 w9 hu => ?_)
                          obtain ⟨f2_161, rfl, rfl⟩ := hu
                          refine v_is (wn := [(xo, aI g 75100 f_97), (xp, aI g 25 f_99), (xw, aI g 72000 f), (xq, aI g 2000 fq), (xf, aI g 16384 fw), (xg, aI g 16384 fb), (h0, ob 8 [.ref xa, .ref xb, .ref xc, .ref xd, .ref xe, .ref xf, .ref xg, .int (iI vc), .int (iI vk), .int (iI vw), .ref xm, .ref xv, .int (iI vg), .ref xw, .int (iI vb), .int (iI vi), .ref xq, .int (iI ve), .int (iI vf), .int (iI vu), .int (iI vl), .ref xr, .ref xh, .ref xo, .ref xp, .int (iI vr), .int (iI a2_155), .int (iI vt), .int (iI vm), .int (iI d2_156), .int (iI x2_5)]), (xr, aZ g 75000 f2_161)]) (cn := 0) (sn := 0) (sn2 := []) rfl rfl rfl rfl ?_
                          refine v_aload_n fx 5 dX8_readTwo_220 rfl rfl ?_
                          refine v_iload_n fx 7 dX8_readTwo_221 rfl rfl ?_
                          refine v_iload fx 2 dX8_readTwo_222 rfl rfl ?_
                          refine v_iload fx 1 dX8_readTwo_224 rfl rfl ?_
                          refine v_iadd fx (0 + r_146) dX8_readTwo_226 (by rfl) rfl ?_
                          refine v_iload fx 2 dX8_readTwo_227 rfl rfl ?_
                          refine v_iload fx 1 dX8_readTwo_229 rfl rfl ?_
                          refine v_iadd fx (0 + r_146) dX8_readTwo_231 (by rfl) rfl ?_
                          refine v_iload fx 0 dX8_readTwo_232 rfl rfl ?_
                          refine v_iadd fx ((0 + r_146) + r_154) dX8_readTwo_234 (by rfl) rfl ?_
                          refine v_iload fx 10 dX8_readTwo_235 rfl rfl ?_
                          refine v_if_ne fx 244 dX8_readTwo_237 (by decide) rfl (by omega) (fun h_162 => ?_) (fun h_162 => ?_)
                          ·
                            refine v_iconst fx dX8_readTwo_244 rfl ?_
                            refine v_callV (As := [.int (iI ba), .int (iI (0 + r_146)), .int (iI ((0 + r_146) + r_154)), .int (iI 0)]) (rest := []) fx [6, 7] [0, 1, 2, 3, 4, 5] [(h0, ob 8 [.ref xa, .ref xb, .ref xc, .ref xd, .ref xe, .ref xf, .ref xg, .int (iI vc), .int (iI vk), .int (iI vw), .ref xm, .ref xv, .int (iI vg), .ref xw, .int (iI vb), .int (iI vi), .ref xq, .int (iI ve), .int (iI vf), .int (iI vu), .int (iI vl), .ref xr, .ref xh, .ref xo, .ref xp, .int (iI vr), .int (iI a2_155), .int (iI vt), .int (iI vm), .int (iI d2_156), .int (iI x2_5)]), (xr, aZ g 75000 f2_161)] [(xo, aI g 75100 f_97), (xp, aI g 25 f_99), (xw, aI g 72000 f), (xq, aI g 2000 fq), (xf, aI g 16384 fw), (xg, aI g 16384 fb)] 4 0 (c_X8_paint l g h0 xa xb xc xd xe xf xg xm xv xw xq xr xh xo xp vc vk vw vg vb vi ve vf vu vl vr a2_155 vt vm d2_156 x2_5 f2_161 ba (0 + r_146) ((0 + r_146) + r_154) 0 (by first | omega | decide | assumption) (by first | omega | decide | assumption) (by first | omega | decide | assumption)) dX8_readTwo_245 k1174 k1176 k36 k57 k1177 ykX8_paint rfl rfl rfl rfl rfl rfl rfl rfl (nl rfl) ⟨nl rfl, nl rfl⟩ ⟨(nl rfl), (nl rfl)⟩ rfl (fun v9 w9 hu => ?_)
                            obtain ⟨f2_163, rfl, rfl⟩ := hu
                            refine v_is (wn := [(xo, aI g 75100 f_97), (xp, aI g 25 f_99), (xw, aI g 72000 f), (xq, aI g 2000 fq), (xf, aI g 16384 fw), (xg, aI g 16384 fb), (h0, ob 8 [.ref xa, .ref xb, .ref xc, .ref xd, .ref xe, .ref xf, .ref xg, .int (iI vc), .int (iI vk), .int (iI vw), .ref xm, .ref xv, .int (iI vg), .ref xw, .int (iI vb), .int (iI vi), .ref xq, .int (iI ve), .int (iI vf), .int (iI vu), .int (iI vl), .ref xr, .ref xh, .ref xo, .ref xp, .int (iI vr), .int (iI a2_155), .int (iI vt), .int (iI vm), .int (iI d2_156), .int (iI x2_5)]), (xr, aZ g 75000 f2_163)]) (cn := 0) (sn := 0) (sn2 := []) rfl rfl rfl rfl ?_
                            refine v_iload fx 2 dX8_readTwo_248 rfl rfl ?_
                            refine v_iload fx 1 dX8_readTwo_250 rfl rfl ?_
                            refine v_iadd fx (0 + r_146) dX8_readTwo_252 (by rfl) rfl ?_
                            refine v_iload fx 0 dX8_readTwo_253 rfl rfl ?_
                            refine v_iadd fx ((0 + r_146) + r_154) dX8_readTwo_255 (by rfl) rfl ?_
                            refine v_istore fx [(4, .int (iI ((0 + r_146) + r_154))), (10, .int (iI r_154)), (9, .int (iI r_146)), (8, .int (iI 0)), (7, .int (iI b)), (6, .int (iI q)), (0, .ref h0), (1, .int (iI y)), (2, .int (iI ba)), (3, .int (iI ab)), (5, .int (iI bk))] dX8_readTwo_256 (by decide) rfl rfl ?_
                            refine v_goto fx 329 dX8_readTwo_258 (by decide) ?_
                            refine v_goto fx 6 dX8_readTwo_329 (by decide) ?_
                            refine v_ws [6, 2, 3, 4, 5, 7, 0, 1] [(h0, ob 8 [.ref xa, .ref xb, .ref xc, .ref xd, .ref xe, .ref xf, .ref xg, .int (iI vc), .int (iI vk), .int (iI vw), .ref xm, .ref xv, .int (iI vg), .ref xw, .int (iI vb), .int (iI vi), .ref xq, .int (iI ve), .int (iI vf), .int (iI vu), .int (iI vl), .ref xr, .ref xh, .ref xo, .ref xp, .int (iI vr), .int (iI a2_155), .int (iI vt), .int (iI vm), .int (iI d2_156), .int (iI x2_5)]), (xw, aI g 72000 f), (xq, aI g 2000 fq), (xf, aI g 16384 fw), (xg, aI g 16384 fb), (xr, aZ g 75000 f2_163), (xo, aI g 75100 f_97), (xp, aI g 25 f_99)] rfl rfl ?_
                            refine v_lv [6, 7, 8, 9, 0, 10] [(0, .ref h0), (1, .int (iI y)), (2, .int (iI ba)), (3, .int (iI ab)), (4, .int (iI ((0 + r_146) + r_154))), (5, .int (iI bk))] rfl ?_
                            exact ihL6 ((0 + r_146) + r_154) bk a2_155 d2_156 x2_5 f2_163 f_97 f_99 (by omega) (by omega) (by omega) (by omega) (by omega) (by first | exact hmC | exact hi6_5) (by omega)
                          ·
                            refine v_iconst fx dX8_readTwo_240 rfl ?_
                            refine v_goto fx 245 dX8_readTwo_241 (by decide) ?_
                            refine v_callV (As := [.int (iI ba), .int (iI (0 + r_146)), .int (iI ((0 + r_146) + r_154)), .int (iI 1)]) (rest := []) fx [6, 7] [0, 1, 2, 3, 4, 5] [(h0, ob 8 [.ref xa, .ref xb, .ref xc, .ref xd, .ref xe, .ref xf, .ref xg, .int (iI vc), .int (iI vk), .int (iI vw), .ref xm, .ref xv, .int (iI vg), .ref xw, .int (iI vb), .int (iI vi), .ref xq, .int (iI ve), .int (iI vf), .int (iI vu), .int (iI vl), .ref xr, .ref xh, .ref xo, .ref xp, .int (iI vr), .int (iI a2_155), .int (iI vt), .int (iI vm), .int (iI d2_156), .int (iI x2_5)]), (xr, aZ g 75000 f2_161)] [(xo, aI g 75100 f_97), (xp, aI g 25 f_99), (xw, aI g 72000 f), (xq, aI g 2000 fq), (xf, aI g 16384 fw), (xg, aI g 16384 fb)] 4 0 (c_X8_paint l g h0 xa xb xc xd xe xf xg xm xv xw xq xr xh xo xp vc vk vw vg vb vi ve vf vu vl vr a2_155 vt vm d2_156 x2_5 f2_161 ba (0 + r_146) ((0 + r_146) + r_154) 1 (by first | omega | decide | assumption) (by first | omega | decide | assumption) (by first | omega | decide | assumption)) dX8_readTwo_245 k1174 k1176 k36 k57 k1177 ykX8_paint rfl rfl rfl rfl rfl rfl rfl rfl (nl rfl) ⟨nl rfl, nl rfl⟩ ⟨(nl rfl), (nl rfl)⟩ rfl (fun v9 w9 hu => ?_)
                            obtain ⟨f2_164, rfl, rfl⟩ := hu
                            refine v_is (wn := [(xo, aI g 75100 f_97), (xp, aI g 25 f_99), (xw, aI g 72000 f), (xq, aI g 2000 fq), (xf, aI g 16384 fw), (xg, aI g 16384 fb), (h0, ob 8 [.ref xa, .ref xb, .ref xc, .ref xd, .ref xe, .ref xf, .ref xg, .int (iI vc), .int (iI vk), .int (iI vw), .ref xm, .ref xv, .int (iI vg), .ref xw, .int (iI vb), .int (iI vi), .ref xq, .int (iI ve), .int (iI vf), .int (iI vu), .int (iI vl), .ref xr, .ref xh, .ref xo, .ref xp, .int (iI vr), .int (iI a2_155), .int (iI vt), .int (iI vm), .int (iI d2_156), .int (iI x2_5)]), (xr, aZ g 75000 f2_164)]) (cn := 0) (sn := 0) (sn2 := []) rfl rfl rfl rfl ?_
                            refine v_iload fx 2 dX8_readTwo_248 rfl rfl ?_
                            refine v_iload fx 1 dX8_readTwo_250 rfl rfl ?_
                            refine v_iadd fx (0 + r_146) dX8_readTwo_252 (by rfl) rfl ?_
                            refine v_iload fx 0 dX8_readTwo_253 rfl rfl ?_
                            refine v_iadd fx ((0 + r_146) + r_154) dX8_readTwo_255 (by rfl) rfl ?_
                            refine v_istore fx [(4, .int (iI ((0 + r_146) + r_154))), (10, .int (iI r_154)), (9, .int (iI r_146)), (8, .int (iI 0)), (7, .int (iI b)), (6, .int (iI q)), (0, .ref h0), (1, .int (iI y)), (2, .int (iI ba)), (3, .int (iI ab)), (5, .int (iI bk))] dX8_readTwo_256 (by decide) rfl rfl ?_
                            refine v_goto fx 329 dX8_readTwo_258 (by decide) ?_
                            refine v_goto fx 6 dX8_readTwo_329 (by decide) ?_
                            refine v_ws [6, 2, 3, 4, 5, 7, 0, 1] [(h0, ob 8 [.ref xa, .ref xb, .ref xc, .ref xd, .ref xe, .ref xf, .ref xg, .int (iI vc), .int (iI vk), .int (iI vw), .ref xm, .ref xv, .int (iI vg), .ref xw, .int (iI vb), .int (iI vi), .ref xq, .int (iI ve), .int (iI vf), .int (iI vu), .int (iI vl), .ref xr, .ref xh, .ref xo, .ref xp, .int (iI vr), .int (iI a2_155), .int (iI vt), .int (iI vm), .int (iI d2_156), .int (iI x2_5)]), (xw, aI g 72000 f), (xq, aI g 2000 fq), (xf, aI g 16384 fw), (xg, aI g 16384 fb), (xr, aZ g 75000 f2_164), (xo, aI g 75100 f_97), (xp, aI g 25 f_99)] rfl rfl ?_
                            refine v_lv [6, 7, 8, 9, 0, 10] [(0, .ref h0), (1, .int (iI y)), (2, .int (iI ba)), (3, .int (iI ab)), (4, .int (iI ((0 + r_146) + r_154))), (5, .int (iI bk))] rfl ?_
                            exact ihL6 ((0 + r_146) + r_154) bk a2_155 d2_156 x2_5 f2_164 f_97 f_99 (by omega) (by omega) (by omega) (by omega) (by omega) (by first | exact hmC | exact hi6_5) (by omega)
                      ·
                        refine v_iconst fx dX8_readTwo_179 rfl ?_
                        refine v_goto fx 184 dX8_readTwo_180 (by decide) ?_
                        refine v_aload_n fx 4 dX8_readTwo_184 rfl rfl ?_
                        refine v_get fx 3 9 inX8 k1005 dX8_readTwo_185 rfl rfl (by decide) rfl rfl rfl ?_
                        refine v_iload fx 1 dX8_readTwo_188 rfl rfl ?_
                        refine v_isub fx (vw - 0) dX8_readTwo_190 (by rfl) rfl ?_
                        refine v_iload fx 0 dX8_readTwo_191 rfl rfl ?_
                        refine v_isub fx ((vw - 0) - r_146) dX8_readTwo_193 (by rfl) rfl ?_
                        refine v_callV (As := [.int (iI 1), .int (iI ((vw - 0) - r_146))]) (rest := []) fx [3, 4, 5, 6, 7] [0, 1, 2] [(h0, ob 8 [.ref xa, .ref xb, .ref xc, .ref xd, .ref xe, .ref xf, .ref xg, .int (iI vc), .int (iI vk), .int (iI vw), .ref xm, .ref xv, .int (iI vg), .ref xw, .int (iI vb), .int (iI vi), .ref xq, .int (iI ve), .int (iI vf), .int (iI vu), .int (iI vl), .ref xr, .ref xh, .ref xo, .ref xp, .int (iI vr), .int (iI a2_147), .int (iI vt), .int (iI vm), .int (iI d2_148), .int (iI x2_5)]), (xw, aI g 72000 f), (xq, aI g 2000 fq), (xf, aI g 16384 fw), (xg, aI g 16384 fb)] [(xo, aI g 75100 f_97), (xp, aI g 25 f_99), (xr, aZ g 75000 f1)] 2 0 (c_X8_readRun l g h0 xa xb xc xd xe xf xg xm xv xw xq xr xh xo xp vc vk vw vg vb vi ve vf vu vl vr a2_147 vt vm d2_148 x2_5 f fq fw fb 1 ((vw - 0) - r_146) (by first | omega | decide | assumption) (by first | omega | decide | assumption) (by first | omega | decide | assumption) (by first | omega | decide | assumption) (by first | omega | decide | assumption) (by first | omega | decide | assumption) (by first | omega | decide | assumption) (by first | omega | decide | assumption) (by first | omega | decide | assumption) (by first | omega | decide | assumption)) dX8_readTwo_194 k1182 k1184 k38 k57 k1185 ykX8_readRun rfl rfl rfl rfl rfl rfl rfl rfl (nl rfl) ⟨nl rfl, nl rfl⟩ ⟨(nl rfl), (nl rfl)⟩ rfl (fun v9 w9 hu => ?_)
                        obtain ⟨r_165, a2_166, d2_167, rfl, rfl, u_168, u_169, u_170⟩ := hu
                        refine v_is (wn := [(xo, aI g 75100 f_97), (xp, aI g 25 f_99), (xr, aZ g 75000 f1), (h0, ob 8 [.ref xa, .ref xb, .ref xc, .ref xd, .ref xe, .ref xf, .ref xg, .int (iI vc), .int (iI vk), .int (iI vw), .ref xm, .ref xv, .int (iI vg), .ref xw, .int (iI vb), .int (iI vi), .ref xq, .int (iI ve), .int (iI vf), .int (iI vu), .int (iI vl), .ref xr, .ref xh, .ref xo, .ref xp, .int (iI vr), .int (iI a2_166), .int (iI vt), .int (iI vm), .int (iI d2_167), .int (iI x2_5)]), (xw, aI g 72000 f), (xq, aI g 2000 fq), (xf, aI g 16384 fw), (xg, aI g 16384 fb)]) (cn := 0) (sn := 0) (sn2 := [.int (iI r_165)]) rfl rfl rfl rfl ?_
                        refine v_istore fx [(10, .int (iI r_165)), (9, .int (iI r_146)), (8, .int (iI 0)), (7, .int (iI b)), (6, .int (iI q)), (0, .ref h0), (1, .int (iI y)), (2, .int (iI ba)), (3, .int (iI ab)), (4, .int (iI a0)), (5, .int (iI bk))] dX8_readTwo_197 (by decide) rfl rfl ?_
                        refine v_aload_n fx 5 dX8_readTwo_199 rfl rfl ?_
                        refine v_get fx 3 29 inX8 k1025 dX8_readTwo_200 rfl rfl (by decide) rfl rfl rfl ?_
                        refine v_if_ne fx 258 dX8_readTwo_203 (by decide) rfl (by omega) (fun h_171 => ?_) (fun h_171 => ?_)
                        ·
                          refine v_goto fx 329 dX8_readTwo_258 (by decide) ?_
                          refine v_goto fx 6 dX8_readTwo_329 (by decide) ?_
                          refine v_ws [3, 4, 5, 6, 7, 2, 0, 1] [(h0, ob 8 [.ref xa, .ref xb, .ref xc, .ref xd, .ref xe, .ref xf, .ref xg, .int (iI vc), .int (iI vk), .int (iI vw), .ref xm, .ref xv, .int (iI vg), .ref xw, .int (iI vb), .int (iI vi), .ref xq, .int (iI ve), .int (iI vf), .int (iI vu), .int (iI vl), .ref xr, .ref xh, .ref xo, .ref xp, .int (iI vr), .int (iI a2_166), .int (iI vt), .int (iI vm), .int (iI d2_167), .int (iI x2_5)]), (xw, aI g 72000 f), (xq, aI g 2000 fq), (xf, aI g 16384 fw), (xg, aI g 16384 fb), (xr, aZ g 75000 f1), (xo, aI g 75100 f_97), (xp, aI g 25 f_99)] rfl rfl ?_
                          refine v_lv [5, 6, 7, 8, 9, 10] [(0, .ref h0), (1, .int (iI y)), (2, .int (iI ba)), (3, .int (iI ab)), (4, .int (iI a0)), (5, .int (iI bk))] rfl ?_
                          exact ihL6 a0 bk a2_166 d2_167 x2_5 f1 f_97 f_99 (by omega) (by omega) (by omega) (by omega) (by omega) (by first | exact hmC | exact hi6_5) (by omega)
                        ·
                          refine v_aload_n fx 5 dX8_readTwo_206 rfl rfl ?_
                          refine v_iload_n fx 7 dX8_readTwo_207 rfl rfl ?_
                          refine v_iload fx 2 dX8_readTwo_208 rfl rfl ?_
                          refine v_iload fx 2 dX8_readTwo_210 rfl rfl ?_
                          refine v_iload fx 1 dX8_readTwo_212 rfl rfl ?_
                          refine v_iadd fx (0 + r_146) dX8_readTwo_214 (by rfl) rfl ?_
                          refine v_iload fx 10 dX8_readTwo_215 rfl rfl ?_
                          refine v_callV (As := [.int (iI ba), .int (iI 0), .int (iI (0 + r_146)), .int (iI bk)]) (rest := []) fx [3, 2] [0, 1, 4, 5, 6, 7] [(h0, ob 8 [.ref xa, .ref xb, .ref xc, .ref xd, .ref xe, .ref xf, .ref xg, .int (iI vc), .int (iI vk), .int (iI vw), .ref xm, .ref xv, .int (iI vg), .ref xw, .int (iI vb), .int (iI vi), .ref xq, .int (iI ve), .int (iI vf), .int (iI vu), .int (iI vl), .ref xr, .ref xh, .ref xo, .ref xp, .int (iI vr), .int (iI a2_166), .int (iI vt), .int (iI vm), .int (iI d2_167), .int (iI x2_5)]), (xr, aZ g 75000 f1)] [(xo, aI g 75100 f_97), (xp, aI g 25 f_99), (xw, aI g 72000 f), (xq, aI g 2000 fq), (xf, aI g 16384 fw), (xg, aI g 16384 fb)] 4 0 (c_X8_paint l g h0 xa xb xc xd xe xf xg xm xv xw xq xr xh xo xp vc vk vw vg vb vi ve vf vu vl vr a2_166 vt vm d2_167 x2_5 f1 ba 0 (0 + r_146) bk (by first | omega | decide | assumption) (by first | omega | decide | assumption) (by first | omega | decide | assumption)) dX8_readTwo_217 k1174 k1176 k36 k57 k1177 ykX8_paint rfl rfl rfl rfl rfl rfl rfl rfl (nl rfl) ⟨nl rfl, nl rfl⟩ ⟨(nl rfl), (nl rfl)⟩ rfl (fun v9 w9 hu => ?_)
                          obtain ⟨f2_172, rfl, rfl⟩ := hu
                          refine v_is (wn := [(xo, aI g 75100 f_97), (xp, aI g 25 f_99), (xw, aI g 72000 f), (xq, aI g 2000 fq), (xf, aI g 16384 fw), (xg, aI g 16384 fb), (h0, ob 8 [.ref xa, .ref xb, .ref xc, .ref xd, .ref xe, .ref xf, .ref xg, .int (iI vc), .int (iI vk), .int (iI vw), .ref xm, .ref xv, .int (iI vg), .ref xw, .int (iI vb), .int (iI vi), .ref xq, .int (iI ve), .int (iI vf), .int (iI vu), .int (iI vl), .ref xr, .ref xh, .ref xo, .ref xp, .int (iI vr), .int (iI a2_166), .int (iI vt), .int (iI vm), .int (iI d2_167), .int (iI x2_5)]), (xr, aZ g 75000 f2_172)]) (cn := 0) (sn := 0) (sn2 := []) rfl rfl rfl rfl ?_
                          refine v_aload_n fx 5 dX8_readTwo_220 rfl rfl ?_
                          refine v_iload_n fx 7 dX8_readTwo_221 rfl rfl ?_
                          refine v_iload fx 2 dX8_readTwo_222 rfl rfl ?_
                          refine v_iload fx 1 dX8_readTwo_224 rfl rfl ?_
                          refine v_iadd fx (0 + r_146) dX8_readTwo_226 (by rfl) rfl ?_
                          refine v_iload fx 2 dX8_readTwo_227 rfl rfl ?_
                          refine v_iload fx 1 dX8_readTwo_229 rfl rfl ?_
                          refine v_iadd fx (0 + r_146) dX8_readTwo_231 (by rfl) rfl ?_
                          refine v_iload fx 0 dX8_readTwo_232 rfl rfl ?_
                          refine v_iadd fx ((0 + r_146) + r_165) dX8_readTwo_234 (by rfl) rfl ?_
                          refine v_iload fx 10 dX8_readTwo_235 rfl rfl ?_
                          refine v_if_ne fx 244 dX8_readTwo_237 (by decide) rfl (by omega) (fun h_173 => ?_) (fun h_173 => ?_)
                          ·
                            refine v_iconst fx dX8_readTwo_244 rfl ?_
                            refine v_callV (As := [.int (iI ba), .int (iI (0 + r_146)), .int (iI ((0 + r_146) + r_165)), .int (iI 0)]) (rest := []) fx [6, 7] [0, 1, 2, 3, 4, 5] [(h0, ob 8 [.ref xa, .ref xb, .ref xc, .ref xd, .ref xe, .ref xf, .ref xg, .int (iI vc), .int (iI vk), .int (iI vw), .ref xm, .ref xv, .int (iI vg), .ref xw, .int (iI vb), .int (iI vi), .ref xq, .int (iI ve), .int (iI vf), .int (iI vu), .int (iI vl), .ref xr, .ref xh, .ref xo, .ref xp, .int (iI vr), .int (iI a2_166), .int (iI vt), .int (iI vm), .int (iI d2_167), .int (iI x2_5)]), (xr, aZ g 75000 f2_172)] [(xo, aI g 75100 f_97), (xp, aI g 25 f_99), (xw, aI g 72000 f), (xq, aI g 2000 fq), (xf, aI g 16384 fw), (xg, aI g 16384 fb)] 4 0 (c_X8_paint l g h0 xa xb xc xd xe xf xg xm xv xw xq xr xh xo xp vc vk vw vg vb vi ve vf vu vl vr a2_166 vt vm d2_167 x2_5 f2_172 ba (0 + r_146) ((0 + r_146) + r_165) 0 (by first | omega | decide | assumption) (by first | omega | decide | assumption) (by first | omega | decide | assumption)) dX8_readTwo_245 k1174 k1176 k36 k57 k1177 ykX8_paint rfl rfl rfl rfl rfl rfl rfl rfl (nl rfl) ⟨nl rfl, nl rfl⟩ ⟨(nl rfl), (nl rfl)⟩ rfl (fun v9 w9 hu => ?_)
                            obtain ⟨f2_174, rfl, rfl⟩ := hu
                            refine v_is (wn := [(xo, aI g 75100 f_97), (xp, aI g 25 f_99), (xw, aI g 72000 f), (xq, aI g 2000 fq), (xf, aI g 16384 fw), (xg, aI g 16384 fb), (h0, ob 8 [.ref xa, .ref xb, .ref xc, .ref xd, .ref xe, .ref xf, .ref xg, .int (iI vc), .int (iI vk), .int (iI vw), .ref xm, .ref xv, .int (iI vg), .ref xw, .int (iI vb), .int (iI vi), .ref xq, .int (iI ve), .int (iI vf), .int (iI vu), .int (iI vl), .ref xr, .ref xh, .ref xo, .ref xp, .int (iI vr), .int (iI a2_166), .int (iI vt), .int (iI vm), .int (iI d2_167), .int (iI x2_5)]), (xr, aZ g 75000 f2_174)]) (cn := 0) (sn := 0) (sn2 := []) rfl rfl rfl rfl ?_
                            refine v_iload fx 2 dX8_readTwo_248 rfl rfl ?_
                            refine v_iload fx 1 dX8_readTwo_250 rfl rfl ?_
                            refine v_iadd fx (0 + r_146) dX8_readTwo_252 (by rfl) rfl ?_
                            refine v_iload fx 0 dX8_readTwo_253 rfl rfl ?_
                            refine v_iadd fx ((0 + r_146) + r_165) dX8_readTwo_255 (by rfl) rfl ?_
                            refine v_istore fx [(4, .int (iI ((0 + r_146) + r_165))), (10, .int (iI r_165)), (9, .int (iI r_146)), (8, .int (iI 0)), (7, .int (iI b)), (6, .int (iI q)), (0, .ref h0), (1, .int (iI y)), (2, .int (iI ba)), (3, .int (iI ab)), (5, .int (iI bk))] dX8_readTwo_256 (by decide) rfl rfl ?_
                            refine v_goto fx 329 dX8_readTwo_258 (by decide) ?_
                            refine v_goto fx 6 dX8_readTwo_329 (by decide) ?_
                            refine v_ws [6, 2, 3, 4, 5, 7, 0, 1] [(h0, ob 8 [.ref xa, .ref xb, .ref xc, .ref xd, .ref xe, .ref xf, .ref xg, .int (iI vc), .int (iI vk), .int (iI vw), .ref xm, .ref xv, .int (iI vg), .ref xw, .int (iI vb), .int (iI vi), .ref xq, .int (iI ve), .int (iI vf), .int (iI vu), .int (iI vl), .ref xr, .ref xh, .ref xo, .ref xp, .int (iI vr), .int (iI a2_166), .int (iI vt), .int (iI vm), .int (iI d2_167), .int (iI x2_5)]), (xw, aI g 72000 f), (xq, aI g 2000 fq), (xf, aI g 16384 fw), (xg, aI g 16384 fb), (xr, aZ g 75000 f2_174), (xo, aI g 75100 f_97), (xp, aI g 25 f_99)] rfl rfl ?_
                            refine v_lv [6, 7, 8, 9, 0, 10] [(0, .ref h0), (1, .int (iI y)), (2, .int (iI ba)), (3, .int (iI ab)), (4, .int (iI ((0 + r_146) + r_165))), (5, .int (iI bk))] rfl ?_
                            exact ihL6 ((0 + r_146) + r_165) bk a2_166 d2_167 x2_5 f2_174 f_97 f_99 (by omega) (by omega) (by omega) (by omega) (by omega) (by first | exact hmC | exact hi6_5) (by omega)
                          ·
                            refine v_iconst fx dX8_readTwo_240 rfl ?_
                            refine v_goto fx 245 dX8_readTwo_241 (by decide) ?_
                            refine v_callV (As := [.int (iI ba), .int (iI (0 + r_146)), .int (iI ((0 + r_146) + r_165)), .int (iI 1)]) (rest := []) fx [6, 7] [0, 1, 2, 3, 4, 5] [(h0, ob 8 [.ref xa, .ref xb, .ref xc, .ref xd, .ref xe, .ref xf, .ref xg, .int (iI vc), .int (iI vk), .int (iI vw), .ref xm, .ref xv, .int (iI vg), .ref xw, .int (iI vb), .int (iI vi), .ref xq, .int (iI ve), .int (iI vf), .int (iI vu), .int (iI vl), .ref xr, .ref xh, .ref xo, .ref xp, .int (iI vr), .int (iI a2_166), .int (iI vt), .int (iI vm), .int (iI d2_167), .int (iI x2_5)]), (xr, aZ g 75000 f2_172)] [(xo, aI g 75100 f_97), (xp, aI g 25 f_99), (xw, aI g 72000 f), (xq, aI g 2000 fq), (xf, aI g 16384 fw), (xg, aI g 16384 fb)] 4 0 (c_X8_paint l g h0 xa xb xc xd xe xf xg xm xv xw xq xr xh xo xp vc vk vw vg vb vi ve vf vu vl vr a2_166 vt vm d2_167 x2_5 f2_172 ba (0 + r_146) ((0 + r_146) + r_165) 1 (by first | omega | decide | assumption) (by first | omega | decide | assumption) (by first | omega | decide | assumption)) dX8_readTwo_245 k1174 k1176 k36 k57 k1177 ykX8_paint rfl rfl rfl rfl rfl rfl rfl rfl (nl rfl) ⟨nl rfl, nl rfl⟩ ⟨(nl rfl), (nl rfl)⟩ rfl (fun v9 w9 hu => ?_)
                            obtain ⟨f2_175, rfl, rfl⟩ := hu
                            refine v_is (wn := [(xo, aI g 75100 f_97), (xp, aI g 25 f_99), (xw, aI g 72000 f), (xq, aI g 2000 fq), (xf, aI g 16384 fw), (xg, aI g 16384 fb), (h0, ob 8 [.ref xa, .ref xb, .ref xc, .ref xd, .ref xe, .ref xf, .ref xg, .int (iI vc), .int (iI vk), .int (iI vw), .ref xm, .ref xv, .int (iI vg), .ref xw, .int (iI vb), .int (iI vi), .ref xq, .int (iI ve), .int (iI vf), .int (iI vu), .int (iI vl), .ref xr, .ref xh, .ref xo, .ref xp, .int (iI vr), .int (iI a2_166), .int (iI vt), .int (iI vm), .int (iI d2_167), .int (iI x2_5)]), (xr, aZ g 75000 f2_175)]) (cn := 0) (sn := 0) (sn2 := []) rfl rfl rfl rfl ?_
                            refine v_iload fx 2 dX8_readTwo_248 rfl rfl ?_
                            refine v_iload fx 1 dX8_readTwo_250 rfl rfl ?_
                            refine v_iadd fx (0 + r_146) dX8_readTwo_252 (by rfl) rfl ?_
                            refine v_iload fx 0 dX8_readTwo_253 rfl rfl ?_
                            refine v_iadd fx ((0 + r_146) + r_165) dX8_readTwo_255 (by rfl) rfl ?_
                            refine v_istore fx [(4, .int (iI ((0 + r_146) + r_165))), (10, .int (iI r_165)), (9, .int (iI r_146)), (8, .int (iI 0)), (7, .int (iI b)), (6, .int (iI q)), (0, .ref h0), (1, .int (iI y)), (2, .int (iI ba)), (3, .int (iI ab)), (5, .int (iI bk))] dX8_readTwo_256 (by decide) rfl rfl ?_
                            refine v_goto fx 329 dX8_readTwo_258 (by decide) ?_
                            refine v_goto fx 6 dX8_readTwo_329 (by decide) ?_
                            refine v_ws [6, 2, 3, 4, 5, 7, 0, 1] [(h0, ob 8 [.ref xa, .ref xb, .ref xc, .ref xd, .ref xe, .ref xf, .ref xg, .int (iI vc), .int (iI vk), .int (iI vw), .ref xm, .ref xv, .int (iI vg), .ref xw, .int (iI vb), .int (iI vi), .ref xq, .int (iI ve), .int (iI vf), .int (iI vu), .int (iI vl), .ref xr, .ref xh, .ref xo, .ref xp, .int (iI vr), .int (iI a2_166), .int (iI vt), .int (iI vm), .int (iI d2_167), .int (iI x2_5)]), (xw, aI g 72000 f), (xq, aI g 2000 fq), (xf, aI g 16384 fw), (xg, aI g 16384 fb), (xr, aZ g 75000 f2_175), (xo, aI g 75100 f_97), (xp, aI g 25 f_99)] rfl rfl ?_
                            refine v_lv [6, 7, 8, 9, 0, 10] [(0, .ref h0), (1, .int (iI y)), (2, .int (iI ba)), (3, .int (iI ab)), (4, .int (iI ((0 + r_146) + r_165))), (5, .int (iI bk))] rfl ?_
                            exact ihL6 ((0 + r_146) + r_165) bk a2_166 d2_167 x2_5 f2_175 f_97 f_99 (by omega) (by omega) (by omega) (by omega) (by omega) (by first | exact hmC | exact hi6_5) (by omega)
                    ·
                      refine v_iconst fx dX8_readTwo_169 rfl ?_
                      refine v_goto fx 197 dX8_readTwo_170 (by decide) ?_
                      refine v_istore fx [(10, .int (iI 0)), (9, .int (iI r_146)), (8, .int (iI 0)), (7, .int (iI b)), (6, .int (iI q)), (0, .ref h0), (1, .int (iI y)), (2, .int (iI ba)), (3, .int (iI ab)), (4, .int (iI a0)), (5, .int (iI bk))] dX8_readTwo_197 (by decide) rfl rfl ?_
                      refine v_aload_n fx 5 dX8_readTwo_199 rfl rfl ?_
                      refine v_get fx 3 29 inX8 k1025 dX8_readTwo_200 rfl rfl (by decide) rfl rfl rfl ?_
                      refine v_if_ne fx 258 dX8_readTwo_203 (by decide) rfl (by omega) (fun h_176 => ?_) (fun h_176 => ?_)
                      ·
                        refine v_goto fx 329 dX8_readTwo_258 (by decide) ?_
                        refine v_goto fx 6 dX8_readTwo_329 (by decide) ?_
                        refine v_ws [3, 4, 5, 6, 7, 2, 0, 1] [(h0, ob 8 [.ref xa, .ref xb, .ref xc, .ref xd, .ref xe, .ref xf, .ref xg, .int (iI vc), .int (iI vk), .int (iI vw), .ref xm, .ref xv, .int (iI vg), .ref xw, .int (iI vb), .int (iI vi), .ref xq, .int (iI ve), .int (iI vf), .int (iI vu), .int (iI vl), .ref xr, .ref xh, .ref xo, .ref xp, .int (iI vr), .int (iI a2_147), .int (iI vt), .int (iI vm), .int (iI d2_148), .int (iI x2_5)]), (xw, aI g 72000 f), (xq, aI g 2000 fq), (xf, aI g 16384 fw), (xg, aI g 16384 fb), (xr, aZ g 75000 f1), (xo, aI g 75100 f_97), (xp, aI g 25 f_99)] rfl rfl ?_
                        refine v_lv [5, 6, 7, 8, 9, 10] [(0, .ref h0), (1, .int (iI y)), (2, .int (iI ba)), (3, .int (iI ab)), (4, .int (iI a0)), (5, .int (iI bk))] rfl ?_
                        exact ihL6 a0 bk a2_147 d2_148 x2_5 f1 f_97 f_99 (by omega) (by omega) (by omega) (by omega) (by omega) (by first | exact hmC | exact hi6_5) (by omega)
                      ·
                        refine v_aload_n fx 5 dX8_readTwo_206 rfl rfl ?_
                        refine v_iload_n fx 7 dX8_readTwo_207 rfl rfl ?_
                        refine v_iload fx 2 dX8_readTwo_208 rfl rfl ?_
                        refine v_iload fx 2 dX8_readTwo_210 rfl rfl ?_
                        refine v_iload fx 1 dX8_readTwo_212 rfl rfl ?_
                        refine v_iadd fx (0 + r_146) dX8_readTwo_214 (by rfl) rfl ?_
                        refine v_iload fx 10 dX8_readTwo_215 rfl rfl ?_
                        refine v_callV (As := [.int (iI ba), .int (iI 0), .int (iI (0 + r_146)), .int (iI bk)]) (rest := []) fx [3, 2] [0, 1, 4, 5, 6, 7] [(h0, ob 8 [.ref xa, .ref xb, .ref xc, .ref xd, .ref xe, .ref xf, .ref xg, .int (iI vc), .int (iI vk), .int (iI vw), .ref xm, .ref xv, .int (iI vg), .ref xw, .int (iI vb), .int (iI vi), .ref xq, .int (iI ve), .int (iI vf), .int (iI vu), .int (iI vl), .ref xr, .ref xh, .ref xo, .ref xp, .int (iI vr), .int (iI a2_147), .int (iI vt), .int (iI vm), .int (iI d2_148), .int (iI x2_5)]), (xr, aZ g 75000 f1)] [(xo, aI g 75100 f_97), (xp, aI g 25 f_99), (xw, aI g 72000 f), (xq, aI g 2000 fq), (xf, aI g 16384 fw), (xg, aI g 16384 fb)] 4 0 (c_X8_paint l g h0 xa xb xc xd xe xf xg xm xv xw xq xr xh xo xp vc vk vw vg vb vi ve vf vu vl vr a2_147 vt vm d2_148 x2_5 f1 ba 0 (0 + r_146) bk (by first | omega | decide | assumption) (by first | omega | decide | assumption) (by first | omega | decide | assumption)) dX8_readTwo_217 k1174 k1176 k36 k57 k1177 ykX8_paint rfl rfl rfl rfl rfl rfl rfl rfl (nl rfl) ⟨nl rfl, nl rfl⟩ ⟨(nl rfl), (nl rfl)⟩ rfl (fun v9 w9 hu => ?_)
                        obtain ⟨f2_177, rfl, rfl⟩ := hu
                        refine v_is (wn := [(xo, aI g 75100 f_97), (xp, aI g 25 f_99), (xw, aI g 72000 f), (xq, aI g 2000 fq), (xf, aI g 16384 fw), (xg, aI g 16384 fb), (h0, ob 8 [.ref xa, .ref xb, .ref xc, .ref xd, .ref xe, .ref xf, .ref xg, .int (iI vc), .int (iI vk), .int (iI vw), .ref xm, .ref xv, .int (iI vg), .ref xw, .int (iI vb), .int (iI vi), .ref xq, .int (iI ve), .int (iI vf), .int (iI vu), .int (iI vl), .ref xr, .ref xh, .ref xo, .ref xp, .int (iI vr), .int (iI a2_147), .int (iI vt), .int (iI vm), .int (iI d2_148), .int (iI x2_5)]), (xr, aZ g 75000 f2_177)]) (cn := 0) (sn := 0) (sn2 := []) rfl rfl rfl rfl ?_
                        refine v_aload_n fx 5 dX8_readTwo_220 rfl rfl ?_
                        refine v_iload_n fx 7 dX8_readTwo_221 rfl rfl ?_
                        refine v_iload fx 2 dX8_readTwo_222 rfl rfl ?_
                        refine v_iload fx 1 dX8_readTwo_224 rfl rfl ?_
                        refine v_iadd fx (0 + r_146) dX8_readTwo_226 (by rfl) rfl ?_
                        refine v_iload fx 2 dX8_readTwo_227 rfl rfl ?_
                        refine v_iload fx 1 dX8_readTwo_229 rfl rfl ?_
                        refine v_iadd fx (0 + r_146) dX8_readTwo_231 (by rfl) rfl ?_
                        refine v_iload fx 0 dX8_readTwo_232 rfl rfl ?_
                        refine v_iadd fx ((0 + r_146) + 0) dX8_readTwo_234 (by rfl) rfl ?_
                        refine v_iload fx 10 dX8_readTwo_235 rfl rfl ?_
                        refine v_if_ne fx 244 dX8_readTwo_237 (by decide) rfl (by omega) (fun h_178 => ?_) (fun h_178 => ?_)
                        ·
                          refine v_iconst fx dX8_readTwo_244 rfl ?_
                          refine v_callV (As := [.int (iI ba), .int (iI (0 + r_146)), .int (iI ((0 + r_146) + 0)), .int (iI 0)]) (rest := []) fx [6, 7] [0, 1, 2, 3, 4, 5] [(h0, ob 8 [.ref xa, .ref xb, .ref xc, .ref xd, .ref xe, .ref xf, .ref xg, .int (iI vc), .int (iI vk), .int (iI vw), .ref xm, .ref xv, .int (iI vg), .ref xw, .int (iI vb), .int (iI vi), .ref xq, .int (iI ve), .int (iI vf), .int (iI vu), .int (iI vl), .ref xr, .ref xh, .ref xo, .ref xp, .int (iI vr), .int (iI a2_147), .int (iI vt), .int (iI vm), .int (iI d2_148), .int (iI x2_5)]), (xr, aZ g 75000 f2_177)] [(xo, aI g 75100 f_97), (xp, aI g 25 f_99), (xw, aI g 72000 f), (xq, aI g 2000 fq), (xf, aI g 16384 fw), (xg, aI g 16384 fb)] 4 0 (c_X8_paint l g h0 xa xb xc xd xe xf xg xm xv xw xq xr xh xo xp vc vk vw vg vb vi ve vf vu vl vr a2_147 vt vm d2_148 x2_5 f2_177 ba (0 + r_146) ((0 + r_146) + 0) 0 (by first | omega | decide | assumption) (by first | omega | decide | assumption) (by first | omega | decide | assumption)) dX8_readTwo_245 k1174 k1176 k36 k57 k1177 ykX8_paint rfl rfl rfl rfl rfl rfl rfl rfl (nl rfl) ⟨nl rfl, nl rfl⟩ ⟨(nl rfl), (nl rfl)⟩ rfl (fun v9 w9 hu => ?_)
                          obtain ⟨f2_179, rfl, rfl⟩ := hu
                          refine v_is (wn := [(xo, aI g 75100 f_97), (xp, aI g 25 f_99), (xw, aI g 72000 f), (xq, aI g 2000 fq), (xf, aI g 16384 fw), (xg, aI g 16384 fb), (h0, ob 8 [.ref xa, .ref xb, .ref xc, .ref xd, .ref xe, .ref xf, .ref xg, .int (iI vc), .int (iI vk), .int (iI vw), .ref xm, .ref xv, .int (iI vg), .ref xw, .int (iI vb), .int (iI vi), .ref xq, .int (iI ve), .int (iI vf), .int (iI vu), .int (iI vl), .ref xr, .ref xh, .ref xo, .ref xp, .int (iI vr), .int (iI a2_147), .int (iI vt), .int (iI vm), .int (iI d2_148), .int (iI x2_5)]), (xr, aZ g 75000 f2_179)]) (cn := 0) (sn := 0) (sn2 := []) rfl rfl rfl rfl ?_
                          refine v_iload fx 2 dX8_readTwo_248 rfl rfl ?_
                          refine v_iload fx 1 dX8_readTwo_250 rfl rfl ?_
                          refine v_iadd fx (0 + r_146) dX8_readTwo_252 (by rfl) rfl ?_
                          refine v_iload fx 0 dX8_readTwo_253 rfl rfl ?_
                          refine v_iadd fx ((0 + r_146) + 0) dX8_readTwo_255 (by rfl) rfl ?_
                          refine v_istore fx [(4, .int (iI ((0 + r_146) + 0))), (10, .int (iI 0)), (9, .int (iI r_146)), (8, .int (iI 0)), (7, .int (iI b)), (6, .int (iI q)), (0, .ref h0), (1, .int (iI y)), (2, .int (iI ba)), (3, .int (iI ab)), (5, .int (iI bk))] dX8_readTwo_256 (by decide) rfl rfl ?_
                          refine v_goto fx 329 dX8_readTwo_258 (by decide) ?_
                          refine v_goto fx 6 dX8_readTwo_329 (by decide) ?_
                          refine v_ws [6, 2, 3, 4, 5, 7, 0, 1] [(h0, ob 8 [.ref xa, .ref xb, .ref xc, .ref xd, .ref xe, .ref xf, .ref xg, .int (iI vc), .int (iI vk), .int (iI vw), .ref xm, .ref xv, .int (iI vg), .ref xw, .int (iI vb), .int (iI vi), .ref xq, .int (iI ve), .int (iI vf), .int (iI vu), .int (iI vl), .ref xr, .ref xh, .ref xo, .ref xp, .int (iI vr), .int (iI a2_147), .int (iI vt), .int (iI vm), .int (iI d2_148), .int (iI x2_5)]), (xw, aI g 72000 f), (xq, aI g 2000 fq), (xf, aI g 16384 fw), (xg, aI g 16384 fb), (xr, aZ g 75000 f2_179), (xo, aI g 75100 f_97), (xp, aI g 25 f_99)] rfl rfl ?_
                          refine v_lv [6, 7, 8, 9, 0, 10] [(0, .ref h0), (1, .int (iI y)), (2, .int (iI ba)), (3, .int (iI ab)), (4, .int (iI ((0 + r_146) + 0))), (5, .int (iI bk))] rfl ?_
                          exact ihL6 ((0 + r_146) + 0) bk a2_147 d2_148 x2_5 f2_179 f_97 f_99 (by omega) (by omega) (by omega) (by omega) (by omega) (by first | exact hmC | exact hi6_5) (by omega)
                        ·
                          refine v_iconst fx dX8_readTwo_240 rfl ?_
                          refine v_goto fx 245 dX8_readTwo_241 (by decide) ?_
                          refine v_callV (As := [.int (iI ba), .int (iI (0 + r_146)), .int (iI ((0 + r_146) + 0)), .int (iI 1)]) (rest := []) fx [6, 7] [0, 1, 2, 3, 4, 5] [(h0, ob 8 [.ref xa, .ref xb, .ref xc, .ref xd, .ref xe, .ref xf, .ref xg, .int (iI vc), .int (iI vk), .int (iI vw), .ref xm, .ref xv, .int (iI vg), .ref xw, .int (iI vb), .int (iI vi), .ref xq, .int (iI ve), .int (iI vf), .int (iI vu), .int (iI vl), .ref xr, .ref xh, .ref xo, .ref xp, .int (iI vr), .int (iI a2_147), .int (iI vt), .int (iI vm), .int (iI d2_148), .int (iI x2_5)]), (xr, aZ g 75000 f2_177)] [(xo, aI g 75100 f_97), (xp, aI g 25 f_99), (xw, aI g 72000 f), (xq, aI g 2000 fq), (xf, aI g 16384 fw), (xg, aI g 16384 fb)] 4 0 (c_X8_paint l g h0 xa xb xc xd xe xf xg xm xv xw xq xr xh xo xp vc vk vw vg vb vi ve vf vu vl vr a2_147 vt vm d2_148 x2_5 f2_177 ba (0 + r_146) ((0 + r_146) + 0) 1 (by first | omega | decide | assumption) (by first | omega | decide | assumption) (by first | omega | decide | assumption)) dX8_readTwo_245 k1174 k1176 k36 k57 k1177 ykX8_paint rfl rfl rfl rfl rfl rfl rfl rfl (nl rfl) ⟨nl rfl, nl rfl⟩ ⟨(nl rfl), (nl rfl)⟩ rfl (fun v9 w9 hu => ?_)
                          obtain ⟨f2_180, rfl, rfl⟩ := hu
                          refine v_is (wn := [(xo, aI g 75100 f_97), (xp, aI g 25 f_99), (xw, aI g 72000 f), (xq, aI g 2000 fq), (xf, aI g 16384 fw), (xg, aI g 16384 fb), (h0, ob 8 [.ref xa, .ref xb, .ref xc, .ref xd, .ref xe, .ref xf, .ref xg, .int (iI vc), .int (iI vk), .int (iI vw), .ref xm, .ref xv, .int (iI vg), .ref xw, .int (iI vb), .int (iI vi), .ref xq, .int (iI ve), .int (iI vf), .int (iI vu), .int (iI vl), .ref xr, .ref xh, .ref xo, .ref xp, .int (iI vr), .int (iI a2_147), .int (iI vt), .int (iI vm), .int (iI d2_148), .int (iI x2_5)]), (xr, aZ g 75000 f2_180)]) (cn := 0) (sn := 0) (sn2 := []) rfl rfl rfl rfl ?_
                          refine v_iload fx 2 dX8_readTwo_248 rfl rfl ?_
                          refine v_iload fx 1 dX8_readTwo_250 rfl rfl ?_
                          refine v_iadd fx (0 + r_146) dX8_readTwo_252 (by rfl) rfl ?_
                          refine v_iload fx 0 dX8_readTwo_253 rfl rfl ?_
                          refine v_iadd fx ((0 + r_146) + 0) dX8_readTwo_255 (by rfl) rfl ?_
                          refine v_istore fx [(4, .int (iI ((0 + r_146) + 0))), (10, .int (iI 0)), (9, .int (iI r_146)), (8, .int (iI 0)), (7, .int (iI b)), (6, .int (iI q)), (0, .ref h0), (1, .int (iI y)), (2, .int (iI ba)), (3, .int (iI ab)), (5, .int (iI bk))] dX8_readTwo_256 (by decide) rfl rfl ?_
                          refine v_goto fx 329 dX8_readTwo_258 (by decide) ?_
                          refine v_goto fx 6 dX8_readTwo_329 (by decide) ?_
                          refine v_ws [6, 2, 3, 4, 5, 7, 0, 1] [(h0, ob 8 [.ref xa, .ref xb, .ref xc, .ref xd, .ref xe, .ref xf, .ref xg, .int (iI vc), .int (iI vk), .int (iI vw), .ref xm, .ref xv, .int (iI vg), .ref xw, .int (iI vb), .int (iI vi), .ref xq, .int (iI ve), .int (iI vf), .int (iI vu), .int (iI vl), .ref xr, .ref xh, .ref xo, .ref xp, .int (iI vr), .int (iI a2_147), .int (iI vt), .int (iI vm), .int (iI d2_148), .int (iI x2_5)]), (xw, aI g 72000 f), (xq, aI g 2000 fq), (xf, aI g 16384 fw), (xg, aI g 16384 fb), (xr, aZ g 75000 f2_180), (xo, aI g 75100 f_97), (xp, aI g 25 f_99)] rfl rfl ?_
                          refine v_lv [6, 7, 8, 9, 0, 10] [(0, .ref h0), (1, .int (iI y)), (2, .int (iI ba)), (3, .int (iI ab)), (4, .int (iI ((0 + r_146) + 0))), (5, .int (iI bk))] rfl ?_
                          exact ihL6 ((0 + r_146) + 0) bk a2_147 d2_148 x2_5 f2_180 f_97 f_99 (by omega) (by omega) (by omega) (by omega) (by omega) (by first | exact hmC | exact hi6_5) (by omega)
              ·
                refine v_aload_n fx 2 dX8_readTwo_97 rfl rfl ?_
                refine v_aload_n fx 2 dX8_readTwo_98 rfl rfl ?_
                refine v_get fx 6 21 inX8 k1017 dX8_readTwo_99 rfl rfl (by decide) rfl rfl rfl ?_
                refine v_iload_n fx 5 dX8_readTwo_102 rfl rfl ?_
                refine v_iload fx 0 dX8_readTwo_103 rfl rfl ?_
                refine v_callV (As := [.ref xr, .int (iI ab), .int (iI b)]) (rest := []) fx [6, 7] [0, 1, 2, 3, 4, 5] [(h0, ob 8 [.ref xa, .ref xb, .ref xc, .ref xd, .ref xe, .ref xf, .ref xg, .int (iI vc), .int (iI vk), .int (iI vw), .ref xm, .ref xv, .int (iI vg), .ref xw, .int (iI vb), .int (iI vi), .ref xq, .int (iI ve), .int (iI vf), .int (iI vu), .int (iI vl), .ref xr, .ref xh, .ref xo, .ref xp, .int (iI vr), .int (iI a2_3), .int (iI vt), .int (iI vm), .int (iI d2_4), .int (iI x2_5)]), (xr, aZ g 75000 f1)] [(xf, aI g 16384 fw), (xg, aI g 16384 fb), (xo, aI g 75100 f_97), (xp, aI g 25 f_99), (xw, aI g 72000 f), (xq, aI g 2000 fq)] 3 0 (c_X8_b2 l g h0 xa xb xc xd xe xf xg xm xv xw xq xr xh xo xp vc vk vw vg vb vi ve vf vu vl vr a2_3 vt vm d2_4 x2_5 xr 75000 f1 ab b (by first | omega | decide | assumption) (by first | omega | decide | assumption) (by first | omega | decide | assumption)) dX8_readTwo_105 k1138 k1140 k30 k57 k1141 ykX8_b2 rfl rfl rfl rfl rfl rfl rfl rfl (nl rfl) ⟨nl rfl, nl rfl⟩ ⟨(nl rfl), (nl rfl)⟩ rfl (fun v9 w9 hu => ?_)
                obtain ⟨to, rfl, rfl, u_181⟩ := hu
                refine v_is (wn := [(xf, aI g 16384 fw), (xg, aI g 16384 fb), (xo, aI g 75100 f_97), (xp, aI g 25 f_99), (xw, aI g 72000 f), (xq, aI g 2000 fq), (h0, ob 8 [.ref xa, .ref xb, .ref xc, .ref xd, .ref xe, .ref xf, .ref xg, .int (iI vc), .int (iI vk), .int (iI vw), .ref xm, .ref xv, .int (iI vg), .ref xw, .int (iI vb), .int (iI vi), .ref xq, .int (iI ve), .int (iI vf), .int (iI vu), .int (iI vl), .ref xr, .ref xh, .ref xo, .ref xp, .int (iI vr), .int (iI a2_3), .int (iI vt), .int (iI vm), .int (iI d2_4), .int (iI x2_5)]), (xr, aZ g 75000 f1)]) (cn := 0) (sn := 0) (sn2 := [.int (iI to)]) rfl rfl rfl rfl ?_
                refine v_istore fx [(8, .int (iI to)), (7, .int (iI b)), (6, .int (iI q)), (0, .ref h0), (1, .int (iI y)), (2, .int (iI ba)), (3, .int (iI ab)), (4, .int (iI a0)), (5, .int (iI bk))] dX8_readTwo_108 (by decide) rfl rfl ?_
                refine v_aload_n fx 3 dX8_readTwo_110 rfl rfl ?_
                refine v_iload_n fx 5 dX8_readTwo_111 rfl rfl ?_
                refine v_iload fx 7 dX8_readTwo_112 rfl rfl ?_
                refine v_iload fx 0 dX8_readTwo_114 rfl rfl ?_
                refine v_iload fx 8 dX8_readTwo_116 rfl rfl ?_
                refine v_callV (As := [.int (iI ba), .int (iI a0), .int (iI to), .int (iI bk)]) (rest := []) fx [6, 7] [0, 1, 2, 3, 4, 5] [(h0, ob 8 [.ref xa, .ref xb, .ref xc, .ref xd, .ref xe, .ref xf, .ref xg, .int (iI vc), .int (iI vk), .int (iI vw), .ref xm, .ref xv, .int (iI vg), .ref xw, .int (iI vb), .int (iI vi), .ref xq, .int (iI ve), .int (iI vf), .int (iI vu), .int (iI vl), .ref xr, .ref xh, .ref xo, .ref xp, .int (iI vr), .int (iI a2_3), .int (iI vt), .int (iI vm), .int (iI d2_4), .int (iI x2_5)]), (xr, aZ g 75000 f1)] [(xf, aI g 16384 fw), (xg, aI g 16384 fb), (xo, aI g 75100 f_97), (xp, aI g 25 f_99), (xw, aI g 72000 f), (xq, aI g 2000 fq)] 4 0 (c_X8_paint l g h0 xa xb xc xd xe xf xg xm xv xw xq xr xh xo xp vc vk vw vg vb vi ve vf vu vl vr a2_3 vt vm d2_4 x2_5 f1 ba a0 to bk (by first | omega | decide | assumption) (by first | omega | decide | assumption) (by first | omega | decide | assumption)) dX8_readTwo_118 k1174 k1176 k36 k57 k1177 ykX8_paint rfl rfl rfl rfl rfl rfl rfl rfl (nl rfl) ⟨nl rfl, nl rfl⟩ ⟨(nl rfl), (nl rfl)⟩ rfl (fun v9 w9 hu => ?_)
                obtain ⟨f2_182, rfl, rfl⟩ := hu
                refine v_is (wn := [(xf, aI g 16384 fw), (xg, aI g 16384 fb), (xo, aI g 75100 f_97), (xp, aI g 25 f_99), (xw, aI g 72000 f), (xq, aI g 2000 fq), (h0, ob 8 [.ref xa, .ref xb, .ref xc, .ref xd, .ref xe, .ref xf, .ref xg, .int (iI vc), .int (iI vk), .int (iI vw), .ref xm, .ref xv, .int (iI vg), .ref xw, .int (iI vb), .int (iI vi), .ref xq, .int (iI ve), .int (iI vf), .int (iI vu), .int (iI vl), .ref xr, .ref xh, .ref xo, .ref xp, .int (iI vr), .int (iI a2_3), .int (iI vt), .int (iI vm), .int (iI d2_4), .int (iI x2_5)]), (xr, aZ g 75000 f2_182)]) (cn := 0) (sn := 0) (sn2 := []) rfl rfl rfl rfl ?_
                refine v_iload fx 0 dX8_readTwo_121 rfl rfl ?_
                refine v_istore fx [(4, .int (iI to)), (8, .int (iI to)), (7, .int (iI b)), (6, .int (iI q)), (0, .ref h0), (1, .int (iI y)), (2, .int (iI ba)), (3, .int (iI ab)), (5, .int (iI bk))] dX8_readTwo_123 (by decide) rfl rfl ?_
                refine v_goto fx 329 dX8_readTwo_125 (by decide) ?_
                refine v_goto fx 6 dX8_readTwo_329 (by decide) ?_
                refine v_ws [6, 4, 5, 0, 1, 7, 2, 3] [(h0, ob 8 [.ref xa, .ref xb, .ref xc, .ref xd, .ref xe, .ref xf, .ref xg, .int (iI vc), .int (iI vk), .int (iI vw), .ref xm, .ref xv, .int (iI vg), .ref xw, .int (iI vb), .int (iI vi), .ref xq, .int (iI ve), .int (iI vf), .int (iI vu), .int (iI vl), .ref xr, .ref xh, .ref xo, .ref xp, .int (iI vr), .int (iI a2_3), .int (iI vt), .int (iI vm), .int (iI d2_4), .int (iI x2_5)]), (xw, aI g 72000 f), (xq, aI g 2000 fq), (xf, aI g 16384 fw), (xg, aI g 16384 fb), (xr, aZ g 75000 f2_182), (xo, aI g 75100 f_97), (xp, aI g 25 f_99)] rfl rfl ?_
                refine v_lv [4, 5, 6, 7, 0, 8] [(0, .ref h0), (1, .int (iI y)), (2, .int (iI ba)), (3, .int (iI ab)), (4, .int (iI to)), (5, .int (iI bk))] rfl ?_
                exact ihL6 to bk a2_3 d2_4 x2_5 f2_182 f_97 f_99 (by omega) (by omega) (by omega) (by omega) (by omega) (by first | exact hmC | exact hi6_5) (by omega)
          ·
            exact v_vret fx [(h0, ob 8 [.ref xa, .ref xb, .ref xc, .ref xd, .ref xe, .ref xf, .ref xg, .int (iI vc), .int (iI vk), .int (iI vw), .ref xm, .ref xv, .int (iI vg), .ref xw, .int (iI vb), .int (iI vi), .ref xq, .int (iI ve), .int (iI vf), .int (iI vu), .int (iI vl), .ref xr, .ref xh, .ref xo, .ref xp, .int (iI vr), .int (iI a2_3), .int (iI vt), .int (iI vm), .int (iI d2_4), .int (iI x2_5)]), (xw, aI g 72000 f), (xq, aI g 2000 fq), (xf, aI g 16384 fw), (xg, aI g 16384 fb), (xr, aZ g 75000 f1), (xo, aI g 75100 f2), (xp, aI g 25 f3)] [5, 6, 7, 0, 1, 2, 3, 4] hr dX8_readTwo_35 rfl rfl (nl rfl) (nl rfl) ⟨a2_3, d2_4, x2_5, f1, f2, f3, rfl, rfl, (by first | omega | rfl | assumption), (by first | omega | rfl | assumption), (by first | omega | rfl | assumption), (by exact hi6_5)⟩
  refine v_lv [2, 3, 4, 5, 1, 0] [(0, .ref h0), (1, .int (iI y)), (2, .int (iI ba)), (3, .int (iI ab)), (4, .int (iI (-1))), (5, .int (iI 0))] rfl ?_
  exact L6 _ (-1) 0 va vd vx fr fm fc (by omega) (by omega) (by omega) (by omega) (by omega) (by exact hp13) (Nat.lt_succ_self _)
theorem dX8_readRow_0 : decode cX8_readRow 0 = .ok (.sipush 3000, 3) := by decide +kernel
theorem dX8_readRow_3 : decode cX8_readRow 3 = .ok (.iload_n 1, 1) := by decide +kernel
theorem dX8_readRow_4 : decode cX8_readRow 4 = .ok (.imul, 1) := by decide +kernel
theorem dX8_readRow_5 : decode cX8_readRow 5 = .ok (.istore_n 3, 1) := by decide +kernel
theorem dX8_readRow_6 : decode cX8_readRow 6 = .ok (.iload_n 1, 1) := by decide +kernel
theorem dX8_readRow_7 : decode cX8_readRow 7 = .ok (.ifCond .ne 7, 3) := by decide +kernel
theorem dX8_readRow_10 : decode cX8_readRow 10 = .ok (.iconst (-1), 1) := by decide +kernel
theorem dX8_readRow_11 : decode cX8_readRow 11 = .ok (.goto 8, 3) := by decide +kernel
theorem dX8_readRow_14 : decode cX8_readRow 14 = .ok (.iload_n 3, 1) := by decide +kernel
theorem dX8_readRow_15 : decode cX8_readRow 15 = .ok (.sipush 3000, 3) := by decide +kernel
theorem dX8_readRow_18 : decode cX8_readRow 18 = .ok (.isub, 1) := by decide +kernel
theorem dX8_readRow_19 : decode cX8_readRow 19 = .ok (.istore 4, 2) := by decide +kernel
theorem dX8_readRow_21 : decode cX8_readRow 21 = .ok (.aload_n 0, 1) := by decide +kernel
theorem dX8_readRow_22 : decode cX8_readRow 22 = .ok (.iconst 0, 1) := by decide +kernel
theorem dX8_readRow_23 : decode cX8_readRow 23 = .ok (.putfield 142, 3) := by decide +kernel
theorem dX8_readRow_26 : decode cX8_readRow 26 = .ok (.aload_n 0, 1) := by decide +kernel
theorem dX8_readRow_27 : decode cX8_readRow 27 = .ok (.getfield 56, 3) := by decide +kernel
theorem dX8_readRow_30 : decode cX8_readRow 30 = .ok (.iload_n 1, 1) := by decide +kernel
theorem dX8_readRow_31 : decode cX8_readRow 31 = .ok (.iconst 0, 1) := by decide +kernel
theorem dX8_readRow_32 : decode cX8_readRow 32 = .ok (.iastore, 1) := by decide +kernel
theorem dX8_readRow_33 : decode cX8_readRow 33 = .ok (.aload_n 0, 1) := by decide +kernel
theorem dX8_readRow_34 : decode cX8_readRow 34 = .ok (.iload_n 3, 1) := by decide +kernel
theorem dX8_readRow_35 : decode cX8_readRow 35 = .ok (.iconst 0, 1) := by decide +kernel
theorem dX8_readRow_36 : decode cX8_readRow 36 = .ok (.aload_n 0, 1) := by decide +kernel
theorem dX8_readRow_37 : decode cX8_readRow 37 = .ok (.getfield 63, 3) := by decide +kernel
theorem dX8_readRow_40 : decode cX8_readRow 40 = .ok (.iconst 0, 1) := by decide +kernel
theorem dX8_readRow_41 : decode cX8_readRow 41 = .ok (.invokevirtual 153, 3) := by decide +kernel
theorem dX8_readRow_44 : decode cX8_readRow 44 = .ok (.iload_n 2, 1) := by decide +kernel
theorem dX8_readRow_45 : decode cX8_readRow 45 = .ok (.ifCond .eq 11, 3) := by decide +kernel
theorem dX8_readRow_48 : decode cX8_readRow 48 = .ok (.aload_n 0, 1) := by decide +kernel
theorem dX8_readRow_49 : decode cX8_readRow 49 = .ok (.iload_n 3, 1) := by decide +kernel
theorem dX8_readRow_50 : decode cX8_readRow 50 = .ok (.invokevirtual 164, 3) := by decide +kernel
theorem dX8_readRow_53 : decode cX8_readRow 53 = .ok (.goto 11, 3) := by decide +kernel
theorem dX8_readRow_56 : decode cX8_readRow 56 = .ok (.aload_n 0, 1) := by decide +kernel
theorem dX8_readRow_57 : decode cX8_readRow 57 = .ok (.iload_n 1, 1) := by decide +kernel
theorem dX8_readRow_58 : decode cX8_readRow 58 = .ok (.iload_n 3, 1) := by decide +kernel
theorem dX8_readRow_59 : decode cX8_readRow 59 = .ok (.iload 4, 2) := by decide +kernel
theorem dX8_readRow_61 : decode cX8_readRow 61 = .ok (.invokevirtual 167, 3) := by decide +kernel
theorem dX8_readRow_64 : decode cX8_readRow 64 = .ok (.aload_n 0, 1) := by decide +kernel
theorem dX8_readRow_65 : decode cX8_readRow 65 = .ok (.getfield 49, 3) := by decide +kernel
theorem dX8_readRow_68 : decode cX8_readRow 68 = .ok (.iload_n 1, 1) := by decide +kernel
theorem dX8_readRow_69 : decode cX8_readRow 69 = .ok (.aload_n 0, 1) := by decide +kernel
theorem dX8_readRow_70 : decode cX8_readRow 70 = .ok (.getfield 142, 3) := by decide +kernel
theorem dX8_readRow_73 : decode cX8_readRow 73 = .ok (.bastore, 1) := by decide +kernel
theorem dX8_readRow_74 : decode cX8_readRow 74 = .ok (.aload_n 0, 1) := by decide +kernel
theorem dX8_readRow_75 : decode cX8_readRow 75 = .ok (.getfield 142, 3) := by decide +kernel
theorem dX8_readRow_78 : decode cX8_readRow 78 = .ok (.ifCond .eq 67, 3) := by decide +kernel
theorem dX8_readRow_81 : decode cX8_readRow 81 = .ok (.aload_n 0, 1) := by decide +kernel
theorem dX8_readRow_82 : decode cX8_readRow 82 = .ok (.getfield 56, 3) := by decide +kernel
theorem dX8_readRow_85 : decode cX8_readRow 85 = .ok (.iload_n 1, 1) := by decide +kernel
theorem dX8_readRow_86 : decode cX8_readRow 86 = .ok (.iconst 0, 1) := by decide +kernel
theorem dX8_readRow_87 : decode cX8_readRow 87 = .ok (.iastore, 1) := by decide +kernel
theorem dX8_readRow_88 : decode cX8_readRow 88 = .ok (.iconst 0, 1) := by decide +kernel
theorem dX8_readRow_89 : decode cX8_readRow 89 = .ok (.istore 5, 2) := by decide +kernel
theorem dX8_readRow_91 : decode cX8_readRow 91 = .ok (.iload 5, 2) := by decide +kernel
theorem dX8_readRow_93 : decode cX8_readRow 93 = .ok (.aload_n 0, 1) := by decide +kernel
theorem dX8_readRow_94 : decode cX8_readRow 94 = .ok (.getfield 63, 3) := by decide +kernel
theorem dX8_readRow_97 : decode cX8_readRow 97 = .ok (.if_icmp .ge 48, 3) := by decide +kernel
theorem dX8_readRow_100 : decode cX8_readRow 100 = .ok (.aload_n 0, 1) := by decide +kernel
theorem dX8_readRow_101 : decode cX8_readRow 101 = .ok (.getfield 46, 3) := by decide +kernel
theorem dX8_readRow_104 : decode cX8_readRow 104 = .ok (.iload_n 3, 1) := by decide +kernel
theorem dX8_readRow_105 : decode cX8_readRow 105 = .ok (.iload 5, 2) := by decide +kernel
theorem dX8_readRow_107 : decode cX8_readRow 107 = .ok (.iadd, 1) := by decide +kernel
theorem dX8_readRow_108 : decode cX8_readRow 108 = .ok (.aload_n 0, 1) := by decide +kernel
theorem dX8_readRow_109 : decode cX8_readRow 109 = .ok (.getfield 171, 3) := by decide +kernel
theorem dX8_readRow_112 : decode cX8_readRow 112 = .ok (.iconst 1, 1) := by decide +kernel
theorem dX8_readRow_113 : decode cX8_readRow 113 = .ok (.if_icmp .ne 24, 3) := by decide +kernel
theorem dX8_readRow_116 : decode cX8_readRow 116 = .ok (.iload_n 1, 1) := by decide +kernel
theorem dX8_readRow_117 : decode cX8_readRow 117 = .ok (.ifCond .le 20, 3) := by decide +kernel
theorem dX8_readRow_120 : decode cX8_readRow 120 = .ok (.aload_n 0, 1) := by decide +kernel
theorem dX8_readRow_121 : decode cX8_readRow 121 = .ok (.getfield 46, 3) := by decide +kernel
theorem dX8_readRow_124 : decode cX8_readRow 124 = .ok (.iload 4, 2) := by decide +kernel
theorem dX8_readRow_126 : decode cX8_readRow 126 = .ok (.iload 5, 2) := by decide +kernel
theorem dX8_readRow_128 : decode cX8_readRow 128 = .ok (.iadd, 1) := by decide +kernel
theorem dX8_readRow_129 : decode cX8_readRow 129 = .ok (.baload, 1) := by decide +kernel
theorem dX8_readRow_130 : decode cX8_readRow 130 = .ok (.ifCond .eq 7, 3) := by decide +kernel
theorem dX8_readRow_133 : decode cX8_readRow 133 = .ok (.iconst 1, 1) := by decide +kernel
theorem dX8_readRow_134 : decode cX8_readRow 134 = .ok (.goto 4, 3) := by decide +kernel
theorem dX8_readRow_137 : decode cX8_readRow 137 = .ok (.iconst 0, 1) := by decide +kernel
theorem dX8_readRow_138 : decode cX8_readRow 138 = .ok (.bastore, 1) := by decide +kernel
theorem dX8_readRow_139 : decode cX8_readRow 139 = .ok (.iinc 5 1, 3) := by decide +kernel
theorem dX8_readRow_142 : decode cX8_readRow 142 = .ok (.goto (-51), 3) := by decide +kernel
theorem dX8_readRow_145 : decode cX8_readRow 145 = .ok (.return_, 1) := by decide +kernel
abbrev po_c_X8_readRow (g : GG) (h0 : Nat) (xa : Nat) (xb : Nat) (xc : Nat) (xd : Nat) (xe : Nat) (xf : Nat) (xg : Nat) (xm : Nat) (xv : Nat) (xw : Nat) (xq : Nat) (xr : Nat) (xh : Nat) (xo : Nat) (xp : Nat) (vc : Int) (vk : Int) (vw : Int) (vg : Int) (vb : Int) (vi : Int) (ve : Int) (vf : Int) (vu : Int) (vl : Int) (vr : Int) (va : Int) (vt : Int) (vm : Int) (vd : Int) (vx : Int) (f : Nat → Int32) (fq : Nat → Int32) (fw : Nat → Int32) (fb : Nat → Int32) (fr : Nat → Int32) (fm : Nat → Int32) (fc : Nat → Int32) (fh : Nat → Int32) (y : Int) (on : Int) : Option Value → va_W → Prop := fun v8 w8 => ∃ a2 : Int, ∃ d2 : Int, ∃ x2 : Int, ∃ g2 : Nat → Int32, ∃ g3 : Nat → Int32, ∃ g4 : Nat → Int32, ∃ g5 : Nat → Int32, v8 = none ∧ w8 = [(h0, ob 8 [.ref xa, .ref xb, .ref xc, .ref xd, .ref xe, .ref xf, .ref xg, .int (iI vc), .int (iI vk), .int (iI vw), .ref xm, .ref xv, .int (iI vg), .ref xw, .int (iI vb), .int (iI vi), .ref xq, .int (iI ve), .int (iI vf), .int (iI vu), .int (iI vl), .ref xr, .ref xh, .ref xo, .ref xp, .int (iI vr), .int (iI a2), .int (iI vt), .int (iI vm), .int (iI d2), .int (iI x2)]), (xw, aI g 72000 f), (xq, aI g 2000 fq), (xf, aI g 16384 fw), (xg, aI g 16384 fb), (xr, aZ g 75000 g2), (xo, aI g 75100 g3), (xp, aI g 25 g4), (xh, aZ g 25 g5)] ∧ (0 ≤ d2 ∧ d2 ≤ 1) ∧ (va ≤ a2 ∧ a2 ≤ vt) ∧ (0 ≤ x2 ∧ x2 ≤ 1) ∧ (mC g4)
set_option maxHeartbeats 4000000 in
set_option maxRecDepth 100000 in
theorem c_X8_readRow (l : Launch) (g : GG) (h0 : Nat) (xa : Nat) (xb : Nat) (xc : Nat) (xd : Nat) (xe : Nat) (xf : Nat) (xg : Nat) (xm : Nat) (xv : Nat) (xw : Nat) (xq : Nat) (xr : Nat) (xh : Nat) (xo : Nat) (xp : Nat) (vc : Int) (vk : Int) (vw : Int) (vg : Int) (vb : Int) (vi : Int) (ve : Int) (vf : Int) (vu : Int) (vl : Int) (vr : Int) (va : Int) (vt : Int) (vm : Int) (vd : Int) (vx : Int) (f : Nat → Int32) (fq : Nat → Int32) (fw : Nat → Int32) (fb : Nat → Int32) (fr : Nat → Int32) (fm : Nat → Int32) (fc : Nat → Int32) (fh : Nat → Int32) (y : Int) (on : Int) (hp0 : sOk vm vt) (hp1 : 0 ≤ vt ∧ vt ≤ 576000) (hp2 : 0 ≤ vl ∧ vl ≤ 1) (hp3 : 0 ≤ vm ∧ vm ≤ 1) (hp4 : rR fw) (hp5 : rR fb) (hp6 : 0 ≤ va ∧ va ≤ vt) (hp7 : 1 ≤ vw ∧ vw ≤ 3000) (hp8 : 0 ≤ vx ∧ vx ≤ 1) (hp9 : mC fc) (hp10 : -2147483648 ≤ vu ∧ vu < 2147483648) (hp11 : 0 ≤ y ∧ y ≤ 24) (hp12 : 0 ≤ on ∧ on ≤ 1) : Ct l g yX8_readRow (wM yX8_readRow cX8_readRow 6 none) (rmD 4 0 0) [.ref h0, .int (iI y), .int (iI on)] [(h0, ob 8 [.ref xa, .ref xb, .ref xc, .ref xd, .ref xe, .ref xf, .ref xg, .int (iI vc), .int (iI vk), .int (iI vw), .ref xm, .ref xv, .int (iI vg), .ref xw, .int (iI vb), .int (iI vi), .ref xq, .int (iI ve), .int (iI vf), .int (iI vu), .int (iI vl), .ref xr, .ref xh, .ref xo, .ref xp, .int (iI vr), .int (iI va), .int (iI vt), .int (iI vm), .int (iI vd), .int (iI vx)]), (xw, aI g 72000 f), (xq, aI g 2000 fq), (xf, aI g 16384 fw), (xg, aI g 16384 fb), (xr, aZ g 75000 fr), (xo, aI g 75100 fm), (xp, aI g 25 fc), (xh, aZ g 25 fh)] (po_c_X8_readRow g h0 xa xb xc xd xe xf xg xm xv xw xq xr xh xo xp vc vk vw vg vb vi ve vf vu vl vr va vt vm vd vx f fq fw fb fr fm fc fh y on) := by
  refine Ct_of (by decide +kernel) (Nat.le_of_ble_eq_true rfl) ?_
  intro p9 e9 s9 m9 ag9 bl9 mt9 c9 A9 fx hr hnm
  refine v_sipush fx dX8_readRow_0 (by decide +kernel) rfl ?_
  refine v_iload_n fx 1 dX8_readRow_3 rfl rfl ?_
  refine v_imul fx (3000 * y) dX8_readRow_4 (by rfl) rfl ?_
  refine v_istore_n fx [(3, .int (iI (3000 * y))), (0, .ref h0), (1, .int (iI y)), (2, .int (iI on))] dX8_readRow_5 (by decide) rfl rfl ?_
  have J6 : ∀ (ab : Int), ((y = 0 ∧ ab = -1) ∨ (0 < y ∧ ab = 3000 * y - 3000)) → V p9 l e9 (rmD 4 0 0) s9 m9 ag9 bl9 mt9 c9 6 g A9 (MQ bl9 (cQ g (po_c_X8_readRow g h0 xa xb xc xd xe xf xg xm xv xw xq xr xh xo xp vc vk vw vg vb vi ve vf vu vl vr va vt vm vd vx f fq fw fb fr fm fc fh y on) A9) ag9 s9 0 0 A9) [(h0, ob 8 [.ref xa, .ref xb, .ref xc, .ref xd, .ref xe, .ref xf, .ref xg, .int (iI vc), .int (iI vk), .int (iI vw), .ref xm, .ref xv, .int (iI vg), .ref xw, .int (iI vb), .int (iI vi), .ref xq, .int (iI ve), .int (iI vf), .int (iI vu), .int (iI vl), .ref xr, .ref xh, .ref xo, .ref xp, .int (iI vr), .int (iI va), .int (iI vt), .int (iI vm), .int (iI vd), .int (iI vx)]), (xw, aI g 72000 f), (xq, aI g 2000 fq), (xf, aI g 16384 fw), (xg, aI g 16384 fb), (xr, aZ g 75000 fr), (xo, aI g 75100 fm), (xp, aI g 25 fc), (xh, aZ g 25 fh)] 0 0 [(3, .int (iI (3000 * y))), (0, .ref h0), (1, .int (iI y)), (2, .int (iI on))] 19 [.int (iI ab)] := by
    intro ab hj6_0
    refine v_istore fx [(4, .int (iI ab)), (3, .int (iI (3000 * y))), (0, .ref h0), (1, .int (iI y)), (2, .int (iI on))] dX8_readRow_19 (by decide) rfl rfl ?_
    refine v_aload_n fx 2 dX8_readRow_21 rfl rfl ?_
    refine v_iconst fx dX8_readRow_22 rfl ?_
    refine v_put fx 0 29 [(h0, ob 8 [.ref xa, .ref xb, .ref xc, .ref xd, .ref xe, .ref xf, .ref xg, .int (iI vc), .int (iI vk), .int (iI vw), .ref xm, .ref xv, .int (iI vg), .ref xw, .int (iI vb), .int (iI vi), .ref xq, .int (iI ve), .int (iI vf), .int (iI vu), .int (iI vl), .ref xr, .ref xh, .ref xo, .ref xp, .int (iI vr), .int (iI va), .int (iI vt), .int (iI vm), .int (iI 0), .int (iI vx)]), (xw, aI g 72000 f), (xq, aI g 2000 fq), (xf, aI g 16384 fw), (xg, aI g 16384 fb), (xr, aZ g 75000 fr), (xo, aI g 75100 fm), (xp, aI g 25 fc), (xh, aZ g 25 fh)] inX8 tyX8_ok nmX8 k1025 dX8_readRow_23 rfl rfl (by decide) rfl rfl rfl rfl (nl rfl) rfl rfl ?_
    refine v_aload_n fx 2 dX8_readRow_26 rfl rfl ?_
    refine v_get fx 0 24 inX8 k1020 dX8_readRow_27 rfl rfl (by decide) rfl rfl rfl ?_
    refine v_iload_n fx 3 dX8_readRow_30 rfl rfl ?_
    refine v_iconst fx dX8_readRow_31 rfl ?_
    obtain ⟨f_1, ef_1⟩ : ∃ f9 : Nat → Int32, upd fc (y).toNat (iI 0) = f9 := ⟨_, rfl⟩
    refine v_iast fx 7 f_1 [(h0, ob 8 [.ref xa, .ref xb, .ref xc, .ref xd, .ref xe, .ref xf, .ref xg, .int (iI vc), .int (iI vk), .int (iI vw), .ref xm, .ref xv, .int (iI vg), .ref xw, .int (iI vb), .int (iI vi), .ref xq, .int (iI ve), .int (iI vf), .int (iI vu), .int (iI vl), .ref xr, .ref xh, .ref xo, .ref xp, .int (iI vr), .int (iI va), .int (iI vt), .int (iI vm), .int (iI 0), .int (iI vx)]), (xw, aI g 72000 f), (xq, aI g 2000 fq), (xf, aI g 16384 fw), (xg, aI g 16384 fb), (xr, aZ g 75000 fr), (xo, aI g 75100 fm), (xp, aI g 25 f_1), (xh, aZ g 25 fh)] dX8_readRow_32 rfl (by omega) (by omega) ef_1 rfl rfl ?_
    have hmC := mC_updE (by assumption) hp9 (by omega)
    refine v_aload_n fx 2 dX8_readRow_33 rfl rfl ?_
    refine v_iload_n fx 1 dX8_readRow_34 rfl rfl ?_
    refine v_iconst fx dX8_readRow_35 rfl ?_
    refine v_aload_n fx 2 dX8_readRow_36 rfl rfl ?_
    refine v_get fx 0 9 inX8 k1005 dX8_readRow_37 rfl rfl (by decide) rfl rfl rfl ?_
    refine v_iconst fx dX8_readRow_40 rfl ?_
    refine v_callV (As := [.int (iI (3000 * y)), .int (iI 0), .int (iI vw), .int (iI 0)]) (rest := []) fx [0, 5] [1, 2, 3, 4, 6, 7, 8] [(h0, ob 8 [.ref xa, .ref xb, .ref xc, .ref xd, .ref xe, .ref xf, .ref xg, .int (iI vc), .int (iI vk), .int (iI vw), .ref xm, .ref xv, .int (iI vg), .ref xw, .int (iI vb), .int (iI vi), .ref xq, .int (iI ve), .int (iI vf), .int (iI vu), .int (iI vl), .ref xr, .ref xh, .ref xo, .ref xp, .int (iI vr), .int (iI va), .int (iI vt), .int (iI vm), .int (iI 0), .int (iI vx)]), (xr, aZ g 75000 fr)] [(xw, aI g 72000 f), (xq, aI g 2000 fq), (xf, aI g 16384 fw), (xg, aI g 16384 fb), (xo, aI g 75100 fm), (xp, aI g 25 f_1), (xh, aZ g 25 fh)] 4 0 (c_X8_paint l g h0 xa xb xc xd xe xf xg xm xv xw xq xr xh xo xp vc vk vw vg vb vi ve vf vu vl vr va vt vm 0 vx fr (3000 * y) 0 vw 0 (by first | omega | decide | assumption) (by first | omega | decide | assumption) (by first | omega | decide | assumption)) dX8_readRow_41 k1174 k1176 k36 k57 k1177 ykX8_paint rfl rfl rfl rfl rfl rfl rfl rfl (nl rfl) ⟨nl rfl, nl rfl⟩ ⟨(nl rfl), (nl rfl)⟩ rfl (fun v9 w9 hu => ?_)
    obtain ⟨f2_2, rfl, rfl⟩ := hu
    refine v_is (wn := [(xw, aI g 72000 f), (xq, aI g 2000 fq), (xf, aI g 16384 fw), (xg, aI g 16384 fb), (xo, aI g 75100 fm), (xp, aI g 25 f_1), (xh, aZ g 25 fh), (h0, ob 8 [.ref xa, .ref xb, .ref xc, .ref xd, .ref xe, .ref xf, .ref xg, .int (iI vc), .int (iI vk), .int (iI vw), .ref xm, .ref xv, .int (iI vg), .ref xw, .int (iI vb), .int (iI vi), .ref xq, .int (iI ve), .int (iI vf), .int (iI vu), .int (iI vl), .ref xr, .ref xh, .ref xo, .ref xp, .int (iI vr), .int (iI va), .int (iI vt), .int (iI vm), .int (iI 0), .int (iI vx)]), (xr, aZ g 75000 f2_2)]) (cn := 0) (sn := 0) (sn2 := []) rfl rfl rfl rfl ?_
    have J44 : ∀ (pa : Int) (pd : Int) (px : Int) (f1 : Nat → Int32) (f2 : Nat → Int32) (f3 : Nat → Int32), (0 ≤ pd ∧ pd ≤ 1) → (va ≤ pa ∧ pa ≤ vt) → (0 ≤ px ∧ px ≤ 1) → (mC f3) → V p9 l e9 (rmD 4 0 0) s9 m9 ag9 bl9 mt9 c9 6 g A9 (MQ bl9 (cQ g (po_c_X8_readRow g h0 xa xb xc xd xe xf xg xm xv xw xq xr xh xo xp vc vk vw vg vb vi ve vf vu vl vr va vt vm vd vx f fq fw fb fr fm fc fh y on) A9) ag9 s9 0 0 A9) [(h0, ob 8 [.ref xa, .ref xb, .ref xc, .ref xd, .ref xe, .ref xf, .ref xg, .int (iI vc), .int (iI vk), .int (iI vw), .ref xm, .ref xv, .int (iI vg), .ref xw, .int (iI vb), .int (iI vi), .ref xq, .int (iI ve), .int (iI vf), .int (iI vu), .int (iI vl), .ref xr, .ref xh, .ref xo, .ref xp, .int (iI vr), .int (iI pa), .int (iI vt), .int (iI vm), .int (iI pd), .int (iI px)]), (xw, aI g 72000 f), (xq, aI g 2000 fq), (xf, aI g 16384 fw), (xg, aI g 16384 fb), (xr, aZ g 75000 f1), (xo, aI g 75100 f2), (xp, aI g 25 f3), (xh, aZ g 25 fh)] 0 0 [(4, .int (iI ab)), (3, .int (iI (3000 * y))), (0, .ref h0), (1, .int (iI y)), (2, .int (iI on))] 64 [] := by
      intro pa pd px f1 f2 f3 hj44_0 hj44_1 hj44_2 hj44_3
      refine v_aload_n fx 2 dX8_readRow_64 rfl rfl ?_
      refine v_get fx 0 22 inX8 k1018 dX8_readRow_65 rfl rfl (by decide) rfl rfl rfl ?_
      refine v_iload_n fx 3 dX8_readRow_68 rfl rfl ?_
      refine v_aload_n fx 2 dX8_readRow_69 rfl rfl ?_
      refine v_get fx 0 29 inX8 k1025 dX8_readRow_70 rfl rfl (by decide) rfl rfl rfl ?_
      obtain ⟨f_3, ef_3⟩ : ∃ f9 : Nat → Int32, upd fh (y).toNat (vp_nar .boolean (iI pd)) = f9 := ⟨_, rfl⟩
      refine v_zast fx 8 f_3 [(h0, ob 8 [.ref xa, .ref xb, .ref xc, .ref xd, .ref xe, .ref xf, .ref xg, .int (iI vc), .int (iI vk), .int (iI vw), .ref xm, .ref xv, .int (iI vg), .ref xw, .int (iI vb), .int (iI vi), .ref xq, .int (iI ve), .int (iI vf), .int (iI vu), .int (iI vl), .ref xr, .ref xh, .ref xo, .ref xp, .int (iI vr), .int (iI pa), .int (iI vt), .int (iI vm), .int (iI pd), .int (iI px)]), (xw, aI g 72000 f), (xq, aI g 2000 fq), (xf, aI g 16384 fw), (xg, aI g 16384 fb), (xr, aZ g 75000 f1), (xo, aI g 75100 f2), (xp, aI g 25 f3), (xh, aZ g 25 f_3)] dX8_readRow_73 rfl (by omega) (by omega) ef_3 rfl rfl ?_
      refine v_aload_n fx 2 dX8_readRow_74 rfl rfl ?_
      refine v_get fx 0 29 inX8 k1025 dX8_readRow_75 rfl rfl (by decide) rfl rfl rfl ?_
      refine v_if_eq fx 145 dX8_readRow_78 (by decide) rfl (by omega) (fun h_4 => ?_) (fun h_4 => ?_)
      ·
        exact v_vret fx [(h0, ob 8 [.ref xa, .ref xb, .ref xc, .ref xd, .ref xe, .ref xf, .ref xg, .int (iI vc), .int (iI vk), .int (iI vw), .ref xm, .ref xv, .int (iI vg), .ref xw, .int (iI vb), .int (iI vi), .ref xq, .int (iI ve), .int (iI vf), .int (iI vu), .int (iI vl), .ref xr, .ref xh, .ref xo, .ref xp, .int (iI vr), .int (iI pa), .int (iI vt), .int (iI vm), .int (iI pd), .int (iI px)]), (xw, aI g 72000 f), (xq, aI g 2000 fq), (xf, aI g 16384 fw), (xg, aI g 16384 fb), (xr, aZ g 75000 f1), (xo, aI g 75100 f2), (xp, aI g 25 f3), (xh, aZ g 25 f_3)] [0, 1, 2, 3, 4, 5, 6, 7, 8] hr dX8_readRow_145 rfl rfl (nl rfl) (nl rfl) ⟨pa, pd, px, f1, f2, f3, f_3, rfl, rfl, (by first | omega | rfl | assumption), (by first | omega | rfl | assumption), (by first | omega | rfl | assumption), (by first | exact hmD | exact hj44_3)⟩
      ·
        refine v_aload_n fx 2 dX8_readRow_81 rfl rfl ?_
        refine v_get fx 0 24 inX8 k1020 dX8_readRow_82 rfl rfl (by decide) rfl rfl rfl ?_
        refine v_iload_n fx 3 dX8_readRow_85 rfl rfl ?_
        refine v_iconst fx dX8_readRow_86 rfl ?_
        obtain ⟨f_5, ef_5⟩ : ∃ f9 : Nat → Int32, upd f3 (y).toNat (iI 0) = f9 := ⟨_, rfl⟩
        refine v_iast fx 7 f_5 [(h0, ob 8 [.ref xa, .ref xb, .ref xc, .ref xd, .ref xe, .ref xf, .ref xg, .int (iI vc), .int (iI vk), .int (iI vw), .ref xm, .ref xv, .int (iI vg), .ref xw, .int (iI vb), .int (iI vi), .ref xq, .int (iI ve), .int (iI vf), .int (iI vu), .int (iI vl), .ref xr, .ref xh, .ref xo, .ref xp, .int (iI vr), .int (iI pa), .int (iI vt), .int (iI vm), .int (iI pd), .int (iI px)]), (xw, aI g 72000 f), (xq, aI g 2000 fq), (xf, aI g 16384 fw), (xg, aI g 16384 fb), (xr, aZ g 75000 f1), (xo, aI g 75100 f2), (xp, aI g 25 f_5), (xh, aZ g 25 f_3)] dX8_readRow_87 rfl (by omega) (by omega) ef_5 rfl rfl ?_
        have hmD := mC_updE (by assumption) hj44_3 (by omega)
        refine v_iconst fx dX8_readRow_88 rfl ?_
        refine v_istore fx [(5, .int (iI 0)), (4, .int (iI ab)), (3, .int (iI (3000 * y))), (0, .ref h0), (1, .int (iI y)), (2, .int (iI on))] dX8_readRow_89 (by decide) rfl rfl ?_
        have L91 : ∀ (N : Nat) (i : Int) (f4 : Nat → Int32), (0 ≤ i ∧ i ≤ vw) → ((vw - i).toNat) < N → V p9 l e9 (rmD 4 0 0) s9 m9 ag9 bl9 mt9 c9 6 g A9 (MQ bl9 (cQ g (po_c_X8_readRow g h0 xa xb xc xd xe xf xg xm xv xw xq xr xh xo xp vc vk vw vg vb vi ve vf vu vl vr va vt vm vd vx f fq fw fb fr fm fc fh y on) A9) ag9 s9 0 0 A9) [(h0, ob 8 [.ref xa, .ref xb, .ref xc, .ref xd, .ref xe, .ref xf, .ref xg, .int (iI vc), .int (iI vk), .int (iI vw), .ref xm, .ref xv, .int (iI vg), .ref xw, .int (iI vb), .int (iI vi), .ref xq, .int (iI ve), .int (iI vf), .int (iI vu), .int (iI vl), .ref xr, .ref xh, .ref xo, .ref xp, .int (iI vr), .int (iI pa), .int (iI vt), .int (iI vm), .int (iI pd), .int (iI px)]), (xw, aI g 72000 f), (xq, aI g 2000 fq), (xf, aI g 16384 fw), (xg, aI g 16384 fb), (xr, aZ g 75000 f4), (xo, aI g 75100 f2), (xp, aI g 25 f_5), (xh, aZ g 25 f_3)] 0 0 [(0, .ref h0), (1, .int (iI y)), (3, .int (iI (3000 * y))), (4, .int (iI ab)), (5, .int (iI i))] 91 [] := by
          intro N
          induction N with
          | zero => intro i f4 hi91_0 hN; exact absurd hN (Nat.not_lt_zero _)
          | succ N ihL91 =>
            intro i f4 hi91_0 hN91
            refine v_iload fx 4 dX8_readRow_91 rfl rfl ?_
            refine v_aload_n fx 0 dX8_readRow_93 rfl rfl ?_
            refine v_get fx 0 9 inX8 k1005 dX8_readRow_94 rfl rfl (by decide) rfl rfl rfl ?_
            refine v_icmp_ge fx 145 dX8_readRow_97 (by decide) rfl (by omega) (by omega) (fun h_6 => ?_) (fun h_6 => ?_)
            ·
              exact v_vret fx [(h0, ob 8 [.ref xa, .ref xb, .ref xc, .ref xd, .ref xe, .ref xf, .ref xg, .int (iI vc), .int (iI vk), .int (iI vw), .ref xm, .ref xv, .int (iI vg), .ref xw, .int (iI vb), .int (iI vi), .ref xq, .int (iI ve), .int (iI vf), .int (iI vu), .int (iI vl), .ref xr, .ref xh, .ref xo, .ref xp, .int (iI vr), .int (iI pa), .int (iI vt), .int (iI vm), .int (iI pd), .int (iI px)]), (xw, aI g 72000 f), (xq, aI g 2000 fq), (xf, aI g 16384 fw), (xg, aI g 16384 fb), (xr, aZ g 75000 f4), (xo, aI g 75100 f2), (xp, aI g 25 f_5), (xh, aZ g 25 f_3)] [0, 1, 2, 3, 4, 5, 6, 7, 8] hr dX8_readRow_145 rfl rfl (nl rfl) (nl rfl) ⟨pa, pd, px, f4, f2, f_5, f_3, rfl, rfl, (by first | omega | rfl | assumption), (by first | omega | rfl | assumption), (by first | omega | rfl | assumption), (by first | exact hmD | exact hj44_3)⟩
            ·
              refine v_aload_n fx 0 dX8_readRow_100 rfl rfl ?_
              refine v_get fx 0 21 inX8 k1017 dX8_readRow_101 rfl rfl (by decide) rfl rfl rfl ?_
              refine v_iload_n fx 2 dX8_readRow_104 rfl rfl ?_
              refine v_iload fx 4 dX8_readRow_105 rfl rfl ?_
              refine v_iadd fx ((3000 * y) + i) dX8_readRow_107 (by rfl) rfl ?_
              refine v_aload_n fx 0 dX8_readRow_108 rfl rfl ?_
              refine v_get fx 0 19 inX8 k1015 dX8_readRow_109 rfl rfl (by decide) rfl rfl rfl ?_
              refine v_iconst fx dX8_readRow_112 rfl ?_
              refine v_icmp_ne fx 137 dX8_readRow_113 (by decide) rfl (by omega) (by omega) (fun h_7 => ?_) (fun h_7 => ?_)
              ·
                refine v_iconst fx dX8_readRow_137 rfl ?_
                obtain ⟨f_8, ef_8⟩ : ∃ f9 : Nat → Int32, upd f4 ((3000 * y) + i).toNat (vp_nar .boolean (iI 0)) = f9 := ⟨_, rfl⟩
                refine v_zast fx 5 f_8 [(h0, ob 8 [.ref xa, .ref xb, .ref xc, .ref xd, .ref xe, .ref xf, .ref xg, .int (iI vc), .int (iI vk), .int (iI vw), .ref xm, .ref xv, .int (iI vg), .ref xw, .int (iI vb), .int (iI vi), .ref xq, .int (iI ve), .int (iI vf), .int (iI vu), .int (iI vl), .ref xr, .ref xh, .ref xo, .ref xp, .int (iI vr), .int (iI pa), .int (iI vt), .int (iI vm), .int (iI pd), .int (iI px)]), (xw, aI g 72000 f), (xq, aI g 2000 fq), (xf, aI g 16384 fw), (xg, aI g 16384 fb), (xr, aZ g 75000 f_8), (xo, aI g 75100 f2), (xp, aI g 25 f_5), (xh, aZ g 25 f_3)] dX8_readRow_138 rfl (by omega) (by omega) ef_8 rfl rfl ?_
                refine v_iinc fx 4 (i + 1) [(5, .int (iI (i + 1))), (0, .ref h0), (1, .int (iI y)), (3, .int (iI (3000 * y))), (4, .int (iI ab))] dX8_readRow_139 rfl (by omega) (by decide) rfl rfl ?_
                refine v_goto fx 91 dX8_readRow_142 (by decide) ?_
                refine v_lv [1, 2, 3, 4, 0] [(0, .ref h0), (1, .int (iI y)), (3, .int (iI (3000 * y))), (4, .int (iI ab)), (5, .int (iI (i + 1)))] rfl ?_
                exact ihL91 (i + 1) f_8 (by omega) (by omega)
              ·
                refine v_iload_n fx 1 dX8_readRow_116 rfl rfl ?_
                refine v_if_le fx 137 dX8_readRow_117 (by decide) rfl (by omega) (fun h_9 => ?_) (fun h_9 => ?_)
                ·
                  refine v_iconst fx dX8_readRow_137 rfl ?_
                  obtain ⟨f_10, ef_10⟩ : ∃ f9 : Nat → Int32, upd f4 ((3000 * y) + i).toNat (vp_nar .boolean (iI 0)) = f9 := ⟨_, rfl⟩
                  refine v_zast fx 5 f_10 [(h0, ob 8 [.ref xa, .ref xb, .ref xc, .ref xd, .ref xe, .ref xf, .ref xg, .int (iI vc), .int (iI vk), .int (iI vw), .ref xm, .ref xv, .int (iI vg), .ref xw, .int (iI vb), .int (iI vi), .ref xq, .int (iI ve), .int (iI vf), .int (iI vu), .int (iI vl), .ref xr, .ref xh, .ref xo, .ref xp, .int (iI vr), .int (iI pa), .int (iI vt), .int (iI vm), .int (iI pd), .int (iI px)]), (xw, aI g 72000 f), (xq, aI g 2000 fq), (xf, aI g 16384 fw), (xg, aI g 16384 fb), (xr, aZ g 75000 f_10), (xo, aI g 75100 f2), (xp, aI g 25 f_5), (xh, aZ g 25 f_3)] dX8_readRow_138 rfl (by omega) (by omega) ef_10 rfl rfl ?_
                  refine v_iinc fx 4 (i + 1) [(5, .int (iI (i + 1))), (0, .ref h0), (1, .int (iI y)), (3, .int (iI (3000 * y))), (4, .int (iI ab))] dX8_readRow_139 rfl (by omega) (by decide) rfl rfl ?_
                  refine v_goto fx 91 dX8_readRow_142 (by decide) ?_
                  refine v_lv [1, 2, 3, 4, 0] [(0, .ref h0), (1, .int (iI y)), (3, .int (iI (3000 * y))), (4, .int (iI ab)), (5, .int (iI (i + 1)))] rfl ?_
                  exact ihL91 (i + 1) f_10 (by omega) (by omega)
                ·
                  refine v_aload_n fx 0 dX8_readRow_120 rfl rfl ?_
                  refine v_get fx 0 21 inX8 k1017 dX8_readRow_121 rfl rfl (by decide) rfl rfl rfl ?_
                  refine v_iload fx 3 dX8_readRow_124 rfl rfl ?_
                  refine v_iload fx 4 dX8_readRow_126 rfl rfl ?_
                  refine v_iadd fx (ab + i) dX8_readRow_128 (by rfl) rfl ?_
                  refine v_zald fx 5 dX8_readRow_129 rfl (by omega) (by omega) rfl ?_
                  refine v_any (fun z_11 hz_11 ez_11 => ?_)
                  refine v_if_eq fx 137 dX8_readRow_130 (by decide) rfl (by omega) (fun h_12 => ?_) (fun h_12 => ?_)
                  ·
                    refine v_iconst fx dX8_readRow_137 rfl ?_
                    obtain ⟨f_13, ef_13⟩ : ∃ f9 : Nat → Int32, upd f4 ((3000 * y) + i).toNat (vp_nar .boolean (iI 0)) = f9 := ⟨_, rfl⟩
                    refine v_zast fx 5 f_13 [(h0, ob 8 [.ref xa, .ref xb, .ref xc, .ref xd, .ref xe, .ref xf, .ref xg, .int (iI vc), .int (iI vk), .int (iI vw), .ref xm, .ref xv, .int (iI vg), .ref xw, .int (iI vb), .int (iI vi), .ref xq, .int (iI ve), .int (iI vf), .int (iI vu), .int (iI vl), .ref xr, .ref xh, .ref xo, .ref xp, .int (iI vr), .int (iI pa), .int (iI vt), .int (iI vm), .int (iI pd), .int (iI px)]), (xw, aI g 72000 f), (xq, aI g 2000 fq), (xf, aI g 16384 fw), (xg, aI g 16384 fb), (xr, aZ g 75000 f_13), (xo, aI g 75100 f2), (xp, aI g 25 f_5), (xh, aZ g 25 f_3)] dX8_readRow_138 rfl (by omega) (by omega) ef_13 rfl rfl ?_
                    refine v_iinc fx 4 (i + 1) [(5, .int (iI (i + 1))), (0, .ref h0), (1, .int (iI y)), (3, .int (iI (3000 * y))), (4, .int (iI ab))] dX8_readRow_139 rfl (by omega) (by decide) rfl rfl ?_
                    refine v_goto fx 91 dX8_readRow_142 (by decide) ?_
                    refine v_lv [1, 2, 3, 4, 0] [(0, .ref h0), (1, .int (iI y)), (3, .int (iI (3000 * y))), (4, .int (iI ab)), (5, .int (iI (i + 1)))] rfl ?_
                    exact ihL91 (i + 1) f_13 (by omega) (by omega)
                  ·
                    refine v_iconst fx dX8_readRow_133 rfl ?_
                    refine v_goto fx 138 dX8_readRow_134 (by decide) ?_
                    obtain ⟨f_14, ef_14⟩ : ∃ f9 : Nat → Int32, upd f4 ((3000 * y) + i).toNat (vp_nar .boolean (iI 1)) = f9 := ⟨_, rfl⟩
                    refine v_zast fx 5 f_14 [(h0, ob 8 [.ref xa, .ref xb, .ref xc, .ref xd, .ref xe, .ref xf, .ref xg, .int (iI vc), .int (iI vk), .int (iI vw), .ref xm, .ref xv, .int (iI vg), .ref xw, .int (iI vb), .int (iI vi), .ref xq, .int (iI ve), .int (iI vf), .int (iI vu), .int (iI vl), .ref xr, .ref xh, .ref xo, .ref xp, .int (iI vr), .int (iI pa), .int (iI vt), .int (iI vm), .int (iI pd), .int (iI px)]), (xw, aI g 72000 f), (xq, aI g 2000 fq), (xf, aI g 16384 fw), (xg, aI g 16384 fb), (xr, aZ g 75000 f_14), (xo, aI g 75100 f2), (xp, aI g 25 f_5), (xh, aZ g 25 f_3)] dX8_readRow_138 rfl (by omega) (by omega) ef_14 rfl rfl ?_
                    refine v_iinc fx 4 (i + 1) [(5, .int (iI (i + 1))), (0, .ref h0), (1, .int (iI y)), (3, .int (iI (3000 * y))), (4, .int (iI ab))] dX8_readRow_139 rfl (by omega) (by decide) rfl rfl ?_
                    refine v_goto fx 91 dX8_readRow_142 (by decide) ?_
                    refine v_lv [1, 2, 3, 4, 0] [(0, .ref h0), (1, .int (iI y)), (3, .int (iI (3000 * y))), (4, .int (iI ab)), (5, .int (iI (i + 1)))] rfl ?_
                    exact ihL91 (i + 1) f_14 (by omega) (by omega)
        refine v_lv [3, 4, 2, 1, 0] [(0, .ref h0), (1, .int (iI y)), (3, .int (iI (3000 * y))), (4, .int (iI ab)), (5, .int (iI 0))] rfl ?_
        exact L91 _ 0 f1 (by omega) (Nat.lt_succ_self _)
    refine v_iload_n fx 4 dX8_readRow_44 rfl rfl ?_
    refine v_if_eq fx 56 dX8_readRow_45 (by decide) rfl (by omega) (fun h_15 => ?_) (fun h_15 => ?_)
    ·
      refine v_aload_n fx 2 dX8_readRow_56 rfl rfl ?_
      refine v_iload_n fx 3 dX8_readRow_57 rfl rfl ?_
      refine v_iload_n fx 1 dX8_readRow_58 rfl rfl ?_
      refine v_iload fx 0 dX8_readRow_59 rfl rfl ?_
      refine v_callV (As := [.int (iI y), .int (iI (3000 * y)), .int (iI ab)]) (rest := []) fx [7, 0, 1, 2, 3, 8, 4, 5] [6] [(h0, ob 8 [.ref xa, .ref xb, .ref xc, .ref xd, .ref xe, .ref xf, .ref xg, .int (iI vc), .int (iI vk), .int (iI vw), .ref xm, .ref xv, .int (iI vg), .ref xw, .int (iI vb), .int (iI vi), .ref xq, .int (iI ve), .int (iI vf), .int (iI vu), .int (iI vl), .ref xr, .ref xh, .ref xo, .ref xp, .int (iI vr), .int (iI va), .int (iI vt), .int (iI vm), .int (iI 0), .int (iI vx)]), (xw, aI g 72000 f), (xq, aI g 2000 fq), (xf, aI g 16384 fw), (xg, aI g 16384 fb), (xr, aZ g 75000 f2_2), (xo, aI g 75100 fm), (xp, aI g 25 f_1)] [(xh, aZ g 25 fh)] 3 0 (c_X8_readTwo l g h0 xa xb xc xd xe xf xg xm xv xw xq xr xh xo xp vc vk vw vg vb vi ve vf vu vl vr va vt vm 0 vx f fq fw fb f2_2 fm f_1 y (3000 * y) ab (by first | omega | decide | assumption) (by first | omega | decide | assumption) (by first | omega | decide | assumption) (by first | omega | decide | assumption) (by first | omega | decide | assumption) (by first | omega | decide | assumption) (by first | omega | decide | assumption) (by first | omega | decide | assumption) (by first | omega | decide | assumption) (by first | omega | decide | assumption) (by first | omega | decide | assumption) (by first | omega | decide | assumption) (by first | omega | decide | assumption) (by first | omega | decide | assumption)) dX8_readRow_61 k1190 k1192 k40 k57 k1193 ykX8_readTwo rfl rfl rfl rfl rfl rfl rfl rfl (nl rfl) ⟨nl rfl, nl rfl⟩ ⟨(nl rfl), (nl rfl)⟩ rfl (fun v9 w9 hu => ?_)
      obtain ⟨a2_16, d2_17, x2_18, g2_19, g3_20, g4_21, rfl, rfl, u_22, u_23, u_24, u_25⟩ := hu
      refine v_is (wn := [(xh, aZ g 25 fh), (h0, ob 8 [.ref xa, .ref xb, .ref xc, .ref xd, .ref xe, .ref xf, .ref xg, .int (iI vc), .int (iI vk), .int (iI vw), .ref xm, .ref xv, .int (iI vg), .ref xw, .int (iI vb), .int (iI vi), .ref xq, .int (iI ve), .int (iI vf), .int (iI vu), .int (iI vl), .ref xr, .ref xh, .ref xo, .ref xp, .int (iI vr), .int (iI a2_16), .int (iI vt), .int (iI vm), .int (iI d2_17), .int (iI x2_18)]), (xw, aI g 72000 f), (xq, aI g 2000 fq), (xf, aI g 16384 fw), (xg, aI g 16384 fb), (xr, aZ g 75000 g2_19), (xo, aI g 75100 g3_20), (xp, aI g 25 g4_21)]) (cn := 0) (sn := 0) (sn2 := []) rfl rfl rfl rfl ?_
      refine v_ws [1, 2, 3, 4, 5, 6, 7, 8, 0] [(h0, ob 8 [.ref xa, .ref xb, .ref xc, .ref xd, .ref xe, .ref xf, .ref xg, .int (iI vc), .int (iI vk), .int (iI vw), .ref xm, .ref xv, .int (iI vg), .ref xw, .int (iI vb), .int (iI vi), .ref xq, .int (iI ve), .int (iI vf), .int (iI vu), .int (iI vl), .ref xr, .ref xh, .ref xo, .ref xp, .int (iI vr), .int (iI a2_16), .int (iI vt), .int (iI vm), .int (iI d2_17), .int (iI x2_18)]), (xw, aI g 72000 f), (xq, aI g 2000 fq), (xf, aI g 16384 fw), (xg, aI g 16384 fb), (xr, aZ g 75000 g2_19), (xo, aI g 75100 g3_20), (xp, aI g 25 g4_21), (xh, aZ g 25 fh)] rfl rfl ?_
      exact J44 a2_16 d2_17 x2_18 g2_19 g3_20 g4_21 (by omega) (by omega) (by omega) (by first | assumption | exact hmC)
    ·
      refine v_aload_n fx 2 dX8_readRow_48 rfl rfl ?_
      refine v_iload_n fx 1 dX8_readRow_49 rfl rfl ?_
      refine v_callV (As := [.int (iI (3000 * y))]) (rest := []) fx [7, 0, 1, 2, 3, 8] [4, 5, 6] [(h0, ob 8 [.ref xa, .ref xb, .ref xc, .ref xd, .ref xe, .ref xf, .ref xg, .int (iI vc), .int (iI vk), .int (iI vw), .ref xm, .ref xv, .int (iI vg), .ref xw, .int (iI vb), .int (iI vi), .ref xq, .int (iI ve), .int (iI vf), .int (iI vu), .int (iI vl), .ref xr, .ref xh, .ref xo, .ref xp, .int (iI vr), .int (iI va), .int (iI vt), .int (iI vm), .int (iI 0), .int (iI vx)]), (xw, aI g 72000 f), (xq, aI g 2000 fq), (xf, aI g 16384 fw), (xg, aI g 16384 fb), (xr, aZ g 75000 f2_2)] [(xo, aI g 75100 fm), (xp, aI g 25 f_1), (xh, aZ g 25 fh)] 1 0 (c_X8_readOne l g h0 xa xb xc xd xe xf xg xm xv xw xq xr xh xo xp vc vk vw vg vb vi ve vf vu vl vr va vt vm 0 vx f fq fw fb f2_2 (3000 * y) (by first | omega | decide | assumption) (by first | omega | decide | assumption) (by first | omega | decide | assumption) (by first | omega | decide | assumption) (by first | omega | decide | assumption) (by first | omega | decide | assumption) (by first | omega | decide | assumption) (by first | omega | decide | assumption) (by first | omega | decide | assumption) (by first | omega | decide | assumption)) dX8_readRow_50 k1178 k1180 k37 k57 k1181 ykX8_readOne rfl rfl rfl rfl rfl rfl rfl rfl (nl rfl) ⟨nl rfl, nl rfl⟩ ⟨(nl rfl), (nl rfl)⟩ rfl (fun v9 w9 hu => ?_)
      obtain ⟨a2_26, d2_27, f2_28, rfl, rfl, u_29, u_30⟩ := hu
      refine v_is (wn := [(xo, aI g 75100 fm), (xp, aI g 25 f_1), (xh, aZ g 25 fh), (h0, ob 8 [.ref xa, .ref xb, .ref xc, .ref xd, .ref xe, .ref xf, .ref xg, .int (iI vc), .int (iI vk), .int (iI vw), .ref xm, .ref xv, .int (iI vg), .ref xw, .int (iI vb), .int (iI vi), .ref xq, .int (iI ve), .int (iI vf), .int (iI vu), .int (iI vl), .ref xr, .ref xh, .ref xo, .ref xp, .int (iI vr), .int (iI a2_26), .int (iI vt), .int (iI vm), .int (iI d2_27), .int (iI vx)]), (xw, aI g 72000 f), (xq, aI g 2000 fq), (xf, aI g 16384 fw), (xg, aI g 16384 fb), (xr, aZ g 75000 f2_28)]) (cn := 0) (sn := 0) (sn2 := []) rfl rfl rfl rfl ?_
      refine v_goto fx 64 dX8_readRow_53 (by decide) ?_
      refine v_ws [3, 4, 5, 6, 7, 8, 0, 1, 2] [(h0, ob 8 [.ref xa, .ref xb, .ref xc, .ref xd, .ref xe, .ref xf, .ref xg, .int (iI vc), .int (iI vk), .int (iI vw), .ref xm, .ref xv, .int (iI vg), .ref xw, .int (iI vb), .int (iI vi), .ref xq, .int (iI ve), .int (iI vf), .int (iI vu), .int (iI vl), .ref xr, .ref xh, .ref xo, .ref xp, .int (iI vr), .int (iI a2_26), .int (iI vt), .int (iI vm), .int (iI d2_27), .int (iI vx)]), (xw, aI g 72000 f), (xq, aI g 2000 fq), (xf, aI g 16384 fw), (xg, aI g 16384 fb), (xr, aZ g 75000 f2_28), (xo, aI g 75100 fm), (xp, aI g 25 f_1), (xh, aZ g 25 fh)] rfl rfl ?_
      exact J44 a2_26 d2_27 vx f2_28 fm f_1 (by omega) (by omega) (by omega) (by first | assumption | exact hmC)
  refine v_iload_n fx 2 dX8_readRow_6 rfl rfl ?_
  refine v_if_ne fx 14 dX8_readRow_7 (by decide) rfl (by omega) (fun h_31 => ?_) (fun h_31 => ?_)
  ·
    refine v_iload_n fx 0 dX8_readRow_14 rfl rfl ?_
    refine v_sipush fx dX8_readRow_15 (by decide +kernel) rfl ?_
    refine v_isub fx ((3000 * y) - 3000) dX8_readRow_18 (by rfl) rfl ?_
    exact J6 ((3000 * y) - 3000) (by omega)
  ·
    refine v_iconst fx dX8_readRow_10 rfl ?_
    refine v_goto fx 19 dX8_readRow_11 (by decide) ?_
    exact J6 (-1) (by omega)
theorem dX8_readMarked_0 : decode cX8_readMarked 0 = .ok (.iconst 0, 1) := by decide +kernel
theorem dX8_readMarked_1 : decode cX8_readMarked 1 = .ok (.istore_n 1, 1) := by decide +kernel
theorem dX8_readMarked_2 : decode cX8_readMarked 2 = .ok (.aload_n 0, 1) := by decide +kernel
theorem dX8_readMarked_3 : decode cX8_readMarked 3 = .ok (.iconst 0, 1) := by decide +kernel
theorem dX8_readMarked_4 : decode cX8_readMarked 4 = .ok (.invokevirtual 174, 3) := by decide +kernel
theorem dX8_readMarked_7 : decode cX8_readMarked 7 = .ok (.istore_n 2, 1) := by decide +kernel
theorem dX8_readMarked_8 : decode cX8_readMarked 8 = .ok (.iload_n 2, 1) := by decide +kernel
theorem dX8_readMarked_9 : decode cX8_readMarked 9 = .ok (.ifCond .le 102, 3) := by decide +kernel
theorem dX8_readMarked_12 : decode cX8_readMarked 12 = .ok (.aload_n 0, 1) := by decide +kernel
theorem dX8_readMarked_13 : decode cX8_readMarked 13 = .ok (.getfield 59, 3) := by decide +kernel
theorem dX8_readMarked_16 : decode cX8_readMarked 16 = .ok (.iconst 1, 1) := by decide +kernel
theorem dX8_readMarked_17 : decode cX8_readMarked 17 = .ok (.if_icmp .ne 9, 3) := by decide +kernel
theorem dX8_readMarked_20 : decode cX8_readMarked 20 = .ok (.iload_n 2, 1) := by decide +kernel
theorem dX8_readMarked_21 : decode cX8_readMarked 21 = .ok (.iconst 1, 1) := by decide +kernel
theorem dX8_readMarked_22 : decode cX8_readMarked 22 = .ok (.iadd, 1) := by decide +kernel
theorem dX8_readMarked_23 : decode cX8_readMarked 23 = .ok (.goto 4, 3) := by decide +kernel
theorem dX8_readMarked_26 : decode cX8_readMarked 26 = .ok (.iload_n 2, 1) := by decide +kernel
theorem dX8_readMarked_27 : decode cX8_readMarked 27 = .ok (.istore_n 3, 1) := by decide +kernel
theorem dX8_readMarked_28 : decode cX8_readMarked 28 = .ok (.iload_n 3, 1) := by decide +kernel
theorem dX8_readMarked_29 : decode cX8_readMarked 29 = .ok (.aload_n 0, 1) := by decide +kernel
theorem dX8_readMarked_30 : decode cX8_readMarked 30 = .ok (.getfield 129, 3) := by decide +kernel
theorem dX8_readMarked_33 : decode cX8_readMarked 33 = .ok (.if_icmp .gt 11, 3) := by decide +kernel
theorem dX8_readMarked_36 : decode cX8_readMarked 36 = .ok (.aload_n 0, 1) := by decide +kernel
theorem dX8_readMarked_37 : decode cX8_readMarked 37 = .ok (.iload_n 3, 1) := by decide +kernel
theorem dX8_readMarked_38 : decode cX8_readMarked 38 = .ok (.invokevirtual 136, 3) := by decide +kernel
theorem dX8_readMarked_41 : decode cX8_readMarked 41 = .ok (.ifCond .le 5, 3) := by decide +kernel
theorem dX8_readMarked_44 : decode cX8_readMarked 44 = .ok (.iload_n 1, 1) := by decide +kernel
theorem dX8_readMarked_45 : decode cX8_readMarked 45 = .ok (.ireturn, 1) := by decide +kernel
theorem dX8_readMarked_46 : decode cX8_readMarked 46 = .ok (.iload_n 1, 1) := by decide +kernel
theorem dX8_readMarked_47 : decode cX8_readMarked 47 = .ok (.bipush 24, 2) := by decide +kernel
theorem dX8_readMarked_49 : decode cX8_readMarked 49 = .ok (.if_icmp .ne 6, 3) := by decide +kernel
theorem dX8_readMarked_52 : decode cX8_readMarked 52 = .ok (.bipush (-3), 2) := by decide +kernel
theorem dX8_readMarked_54 : decode cX8_readMarked 54 = .ok (.ireturn, 1) := by decide +kernel
theorem dX8_readMarked_55 : decode cX8_readMarked 55 = .ok (.aload_n 0, 1) := by decide +kernel
theorem dX8_readMarked_56 : decode cX8_readMarked 56 = .ok (.iload_n 3, 1) := by decide +kernel
theorem dX8_readMarked_57 : decode cX8_readMarked 57 = .ok (.putfield 139, 3) := by decide +kernel
theorem dX8_readMarked_60 : decode cX8_readMarked 60 = .ok (.aload_n 0, 1) := by decide +kernel
theorem dX8_readMarked_61 : decode cX8_readMarked 61 = .ok (.iload_n 1, 1) := by decide +kernel
theorem dX8_readMarked_62 : decode cX8_readMarked 62 = .ok (.aload_n 0, 1) := by decide +kernel
theorem dX8_readMarked_63 : decode cX8_readMarked 63 = .ok (.getfield 59, 3) := by decide +kernel
theorem dX8_readMarked_66 : decode cX8_readMarked 66 = .ok (.ifCond .eq 12, 3) := by decide +kernel
theorem dX8_readMarked_69 : decode cX8_readMarked 69 = .ok (.aload_n 0, 1) := by decide +kernel
theorem dX8_readMarked_70 : decode cX8_readMarked 70 = .ok (.iload_n 2, 1) := by decide +kernel
theorem dX8_readMarked_71 : decode cX8_readMarked 71 = .ok (.invokevirtual 132, 3) := by decide +kernel
theorem dX8_readMarked_74 : decode cX8_readMarked 74 = .ok (.iconst 1, 1) := by decide +kernel
theorem dX8_readMarked_75 : decode cX8_readMarked 75 = .ok (.if_icmp .ne 7, 3) := by decide +kernel
theorem dX8_readMarked_78 : decode cX8_readMarked 78 = .ok (.iconst 1, 1) := by decide +kernel
theorem dX8_readMarked_79 : decode cX8_readMarked 79 = .ok (.goto 4, 3) := by decide +kernel
theorem dX8_readMarked_82 : decode cX8_readMarked 82 = .ok (.iconst 0, 1) := by decide +kernel
theorem dX8_readMarked_83 : decode cX8_readMarked 83 = .ok (.invokevirtual 177, 3) := by decide +kernel
theorem dX8_readMarked_86 : decode cX8_readMarked 86 = .ok (.aload_n 0, 1) := by decide +kernel
theorem dX8_readMarked_87 : decode cX8_readMarked 87 = .ok (.getfield 157, 3) := by decide +kernel
theorem dX8_readMarked_90 : decode cX8_readMarked 90 = .ok (.ifCond .eq 6, 3) := by decide +kernel
theorem dX8_readMarked_93 : decode cX8_readMarked 93 = .ok (.bipush (-2), 2) := by decide +kernel
theorem dX8_readMarked_95 : decode cX8_readMarked 95 = .ok (.ireturn, 1) := by decide +kernel
theorem dX8_readMarked_96 : decode cX8_readMarked 96 = .ok (.iinc 1 1, 3) := by decide +kernel
theorem dX8_readMarked_99 : decode cX8_readMarked 99 = .ok (.aload_n 0, 1) := by decide +kernel
theorem dX8_readMarked_100 : decode cX8_readMarked 100 = .ok (.aload_n 0, 1) := by decide +kernel
theorem dX8_readMarked_101 : decode cX8_readMarked 101 = .ok (.getfield 139, 3) := by decide +kernel
theorem dX8_readMarked_104 : decode cX8_readMarked 104 = .ok (.invokevirtual 174, 3) := by decide +kernel
theorem dX8_readMarked_107 : decode cX8_readMarked 107 = .ok (.istore_n 2, 1) := by decide +kernel
theorem dX8_readMarked_108 : decode cX8_readMarked 108 = .ok (.goto (-100), 3) := by decide +kernel
theorem dX8_readMarked_111 : decode cX8_readMarked 111 = .ok (.iload_n 1, 1) := by decide +kernel
theorem dX8_readMarked_112 : decode cX8_readMarked 112 = .ok (.ireturn, 1) := by decide +kernel
abbrev po_c_X8_readMarked (g : GG) (h0 : Nat) (xa : Nat) (xb : Nat) (xc : Nat) (xd : Nat) (xe : Nat) (xf : Nat) (xg : Nat) (xm : Nat) (xv : Nat) (xw : Nat) (xq : Nat) (xr : Nat) (xh : Nat) (xo : Nat) (xp : Nat) (vc : Int) (vk : Int) (vw : Int) (vg : Int) (vb : Int) (vi : Int) (ve : Int) (vf : Int) (vu : Int) (vl : Int) (vr : Int) (va : Int) (vt : Int) (vm : Int) (vd : Int) (vx : Int) (f : Nat → Int32) (fq : Nat → Int32) (fw : Nat → Int32) (fb : Nat → Int32) (fr : Nat → Int32) (fm : Nat → Int32) (fc : Nat → Int32) (fh : Nat → Int32) : Option Value → va_W → Prop := fun v8 w8 => ∃ r : Int, ∃ a2 : Int, ∃ d2 : Int, ∃ x2 : Int, ∃ g2 : Nat → Int32, ∃ g3 : Nat → Int32, ∃ g4 : Nat → Int32, ∃ g5 : Nat → Int32, v8 = some (.int (iI r)) ∧ w8 = [(h0, ob 8 [.ref xa, .ref xb, .ref xc, .ref xd, .ref xe, .ref xf, .ref xg, .int (iI vc), .int (iI vk), .int (iI vw), .ref xm, .ref xv, .int (iI vg), .ref xw, .int (iI vb), .int (iI vi), .ref xq, .int (iI ve), .int (iI vf), .int (iI vu), .int (iI vl), .ref xr, .ref xh, .ref xo, .ref xp, .int (iI vr), .int (iI a2), .int (iI vt), .int (iI vm), .int (iI d2), .int (iI x2)]), (xw, aI g 72000 f), (xq, aI g 2000 fq), (xf, aI g 16384 fw), (xg, aI g 16384 fb), (xr, aZ g 75000 g2), (xo, aI g 75100 g3), (xp, aI g 25 g4), (xh, aZ g 25 g5)] ∧ (-3 ≤ r ∧ r ≤ 24) ∧ (mC g4)
set_option maxHeartbeats 4000000 in
set_option maxRecDepth 100000 in
theorem c_X8_readMarked (l : Launch) (g : GG) (h0 : Nat) (xa : Nat) (xb : Nat) (xc : Nat) (xd : Nat) (xe : Nat) (xf : Nat) (xg : Nat) (xm : Nat) (xv : Nat) (xw : Nat) (xq : Nat) (xr : Nat) (xh : Nat) (xo : Nat) (xp : Nat) (vc : Int) (vk : Int) (vw : Int) (vg : Int) (vb : Int) (vi : Int) (ve : Int) (vf : Int) (vu : Int) (vl : Int) (vr : Int) (va : Int) (vt : Int) (vm : Int) (vd : Int) (vx : Int) (f : Nat → Int32) (fq : Nat → Int32) (fw : Nat → Int32) (fb : Nat → Int32) (fr : Nat → Int32) (fm : Nat → Int32) (fc : Nat → Int32) (fh : Nat → Int32) (hp0 : sOk vm vt) (hp1 : 0 ≤ vt ∧ vt ≤ 576000) (hp2 : 0 ≤ vl ∧ vl ≤ 1) (hp3 : 0 ≤ vm ∧ vm ≤ 1) (hp4 : rR fw) (hp5 : rR fb) (hp6 : 1 ≤ vw ∧ vw ≤ 3000) (hp7 : mC fc) (hp8 : -2147483648 ≤ vu ∧ vu < 2147483648) (hp9 : vx = 0) (hp10 : 0 ≤ vk ∧ vk ≤ 1) : Ct l g yX8_readMarked (wM yX8_readMarked cX8_readMarked 4 (some .int)) (rmD 5 0 0) [.ref h0] [(h0, ob 8 [.ref xa, .ref xb, .ref xc, .ref xd, .ref xe, .ref xf, .ref xg, .int (iI vc), .int (iI vk), .int (iI vw), .ref xm, .ref xv, .int (iI vg), .ref xw, .int (iI vb), .int (iI vi), .ref xq, .int (iI ve), .int (iI vf), .int (iI vu), .int (iI vl), .ref xr, .ref xh, .ref xo, .ref xp, .int (iI vr), .int (iI va), .int (iI vt), .int (iI vm), .int (iI vd), .int (iI vx)]), (xw, aI g 72000 f), (xq, aI g 2000 fq), (xf, aI g 16384 fw), (xg, aI g 16384 fb), (xr, aZ g 75000 fr), (xo, aI g 75100 fm), (xp, aI g 25 fc), (xh, aZ g 25 fh)] (po_c_X8_readMarked g h0 xa xb xc xd xe xf xg xm xv xw xq xr xh xo xp vc vk vw vg vb vi ve vf vu vl vr va vt vm vd vx f fq fw fb fr fm fc fh) := by
  refine Ct_of (by decide +kernel) (Nat.le_of_ble_eq_true rfl) ?_
  intro p9 e9 s9 m9 ag9 bl9 mt9 c9 A9 fx hr hnm
  refine v_iconst fx dX8_readMarked_0 rfl ?_
  refine v_istore_n fx [(1, .int (iI 0)), (0, .ref h0)] dX8_readMarked_1 (by decide) rfl rfl ?_
  refine v_aload_n fx 1 dX8_readMarked_2 rfl rfl ?_
  refine v_iconst fx dX8_readMarked_3 rfl ?_
  refine v_callV (As := [.int (iI 0)]) (rest := []) fx [0, 1, 2] [3, 4, 5, 6, 7, 8] [(h0, ob 8 [.ref xa, .ref xb, .ref xc, .ref xd, .ref xe, .ref xf, .ref xg, .int (iI vc), .int (iI vk), .int (iI vw), .ref xm, .ref xv, .int (iI vg), .ref xw, .int (iI vb), .int (iI vi), .ref xq, .int (iI ve), .int (iI vf), .int (iI vu), .int (iI vl), .ref xr, .ref xh, .ref xo, .ref xp, .int (iI vr), .int (iI va), .int (iI vt), .int (iI vm), .int (iI vd), .int (iI vx)]), (xw, aI g 72000 f), (xq, aI g 2000 fq)] [(xf, aI g 16384 fw), (xg, aI g 16384 fb), (xr, aZ g 75000 fr), (xo, aI g 75100 fm), (xp, aI g 25 fc), (xh, aZ g 25 fh)] 1 0 (c_X8_findMark l g h0 xa xb xc xd xe xf xg xm xv xw xq xr xh xo xp vc vk vw vg vb vi ve vf vu vl vr va vt vm vd vx f fq 0 (by first | omega | decide | assumption) (by first | omega | decide | assumption) (by first | omega | decide | assumption) (by first | omega | decide | assumption) (by first | omega | decide | assumption)) dX8_readMarked_4 k1202 k1204 k43 k57 k1205 ykX8_findMark rfl rfl rfl rfl rfl rfl rfl rfl (nl rfl) ⟨nl rfl, nl rfl⟩ ⟨(nl rfl), (nl rfl)⟩ rfl (fun v9 w9 hu => ?_)
  obtain ⟨r_1, rfl, rfl, u_2⟩ := hu
  refine v_is (wn := [(xf, aI g 16384 fw), (xg, aI g 16384 fb), (xr, aZ g 75000 fr), (xo, aI g 75100 fm), (xp, aI g 25 fc), (xh, aZ g 25 fh), (h0, ob 8 [.ref xa, .ref xb, .ref xc, .ref xd, .ref xe, .ref xf, .ref xg, .int (iI vc), .int (iI vk), .int (iI vw), .ref xm, .ref xv, .int (iI vg), .ref xw, .int (iI vb), .int (iI vi), .ref xq, .int (iI ve), .int (iI vf), .int (iI vu), .int (iI vl), .ref xr, .ref xh, .ref xo, .ref xp, .int (iI vr), .int (iI va), .int (iI vt), .int (iI vm), .int (iI vd), .int (iI vx)]), (xw, aI g 72000 f), (xq, aI g 2000 fq)]) (cn := 0) (sn := 0) (sn2 := [.int (iI r_1)]) rfl rfl rfl rfl ?_
  refine v_istore_n fx [(2, .int (iI r_1)), (1, .int (iI 0)), (0, .ref h0)] dX8_readMarked_7 (by decide) rfl rfl ?_
  have L8 : ∀ (N : Nat) (n : Int) (p : Int) (pa : Int) (pd : Int) (px : Int) (f1 : Nat → Int32) (f2 : Nat → Int32) (f3 : Nat → Int32) (f4 : Nat → Int32), (0 ≤ n ∧ n ≤ 24) → (0 ≤ p ∧ p ≤ vt) → (px = 0) → (mC f3) → ((25 - n).toNat) < N → V p9 l e9 (rmD 5 0 0) s9 m9 ag9 bl9 mt9 c9 4 g A9 (MQ bl9 (cQ g (po_c_X8_readMarked g h0 xa xb xc xd xe xf xg xm xv xw xq xr xh xo xp vc vk vw vg vb vi ve vf vu vl vr va vt vm vd vx f fq fw fb fr fm fc fh) A9) ag9 s9 0 0 A9) [(h0, ob 8 [.ref xa, .ref xb, .ref xc, .ref xd, .ref xe, .ref xf, .ref xg, .int (iI vc), .int (iI vk), .int (iI vw), .ref xm, .ref xv, .int (iI vg), .ref xw, .int (iI vb), .int (iI vi), .ref xq, .int (iI ve), .int (iI vf), .int (iI vu), .int (iI vl), .ref xr, .ref xh, .ref xo, .ref xp, .int (iI vr), .int (iI pa), .int (iI vt), .int (iI vm), .int (iI pd), .int (iI px)]), (xw, aI g 72000 f), (xq, aI g 2000 fq), (xf, aI g 16384 fw), (xg, aI g 16384 fb), (xr, aZ g 75000 f1), (xo, aI g 75100 f2), (xp, aI g 25 f3), (xh, aZ g 25 f4)] 0 0 [(0, .ref h0), (1, .int (iI n)), (2, .int (iI p))] 8 [] := by
    intro N
    induction N with
    | zero => intro n p pa pd px f1 f2 f3 f4 hi8_0 hi8_1 hi8_2 hi8_3 hN; exact absurd hN (Nat.not_lt_zero _)
    | succ N ihL8 =>
      intro n p pa pd px f1 f2 f3 f4 hi8_0 hi8_1 hi8_2 hi8_3 hN8
      refine v_iload_n fx 2 dX8_readMarked_8 rfl rfl ?_
      refine v_if_le fx 111 dX8_readMarked_9 (by decide) rfl (by omega) (fun h_3 => ?_) (fun h_3 => ?_)
      ·
        refine v_iload_n fx 1 dX8_readMarked_111 rfl rfl ?_
        exact v_iret fx [(h0, ob 8 [.ref xa, .ref xb, .ref xc, .ref xd, .ref xe, .ref xf, .ref xg, .int (iI vc), .int (iI vk), .int (iI vw), .ref xm, .ref xv, .int (iI vg), .ref xw, .int (iI vb), .int (iI vi), .ref xq, .int (iI ve), .int (iI vf), .int (iI vu), .int (iI vl), .ref xr, .ref xh, .ref xo, .ref xp, .int (iI vr), .int (iI pa), .int (iI vt), .int (iI vm), .int (iI pd), .int (iI px)]), (xw, aI g 72000 f), (xq, aI g 2000 fq), (xf, aI g 16384 fw), (xg, aI g 16384 fb), (xr, aZ g 75000 f1), (xo, aI g 75100 f2), (xp, aI g 25 f3), (xh, aZ g 25 f4)] [0, 1, 2, 3, 4, 5, 6, 7, 8] hr dX8_readMarked_112 rfl rfl (nl rfl) (nl rfl) ⟨n, pa, pd, px, f1, f2, f3, f4, rfl, rfl, (by first | omega | rfl | assumption), (by exact hi8_3)⟩
      ·
        refine v_aload_n fx 0 dX8_readMarked_12 rfl rfl ?_
        refine v_get fx 0 8 inX8 k1004 dX8_readMarked_13 rfl rfl (by decide) rfl rfl rfl ?_
        refine v_iconst fx dX8_readMarked_16 rfl ?_
        refine v_icmp_ne fx 26 dX8_readMarked_17 (by decide) rfl (by omega) (by omega) (fun h_4 => ?_) (fun h_4 => ?_)
        ·
          refine v_iload_n fx 2 dX8_readMarked_26 rfl rfl ?_
          refine v_istore_n fx [(3, .int (iI p)), (0, .ref h0), (1, .int (iI n)), (2, .int (iI p))] dX8_readMarked_27 (by decide) rfl rfl ?_
          refine v_iload_n fx 0 dX8_readMarked_28 rfl rfl ?_
          refine v_aload_n fx 1 dX8_readMarked_29 rfl rfl ?_
          refine v_get fx 0 27 inX8 k1023 dX8_readMarked_30 rfl rfl (by decide) rfl rfl rfl ?_
          refine v_icmp_gt fx 44 dX8_readMarked_33 (by decide) rfl (by omega) (by omega) (fun h_5 => ?_) (fun h_5 => ?_)
          ·
            refine v_iload_n fx 2 dX8_readMarked_44 rfl rfl ?_
            exact v_iret fx [(h0, ob 8 [.ref xa, .ref xb, .ref xc, .ref xd, .ref xe, .ref xf, .ref xg, .int (iI vc), .int (iI vk), .int (iI vw), .ref xm, .ref xv, .int (iI vg), .ref xw, .int (iI vb), .int (iI vi), .ref xq, .int (iI ve), .int (iI vf), .int (iI vu), .int (iI vl), .ref xr, .ref xh, .ref xo, .ref xp, .int (iI vr), .int (iI pa), .int (iI vt), .int (iI vm), .int (iI pd), .int (iI px)]), (xw, aI g 72000 f), (xq, aI g 2000 fq), (xf, aI g 16384 fw), (xg, aI g 16384 fb), (xr, aZ g 75000 f1), (xo, aI g 75100 f2), (xp, aI g 25 f3), (xh, aZ g 25 f4)] [0, 1, 2, 3, 4, 5, 6, 7, 8] hr dX8_readMarked_45 rfl rfl (nl rfl) (nl rfl) ⟨n, pa, pd, px, f1, f2, f3, f4, rfl, rfl, (by first | omega | rfl | assumption), (by exact hi8_3)⟩
          ·
            refine v_aload_n fx 1 dX8_readMarked_36 rfl rfl ?_
            refine v_iload_n fx 0 dX8_readMarked_37 rfl rfl ?_
            refine v_callV (As := [.int (iI p)]) (rest := []) fx [0, 1, 2] [3, 4, 5, 6, 7, 8] [(h0, ob 8 [.ref xa, .ref xb, .ref xc, .ref xd, .ref xe, .ref xf, .ref xg, .int (iI vc), .int (iI vk), .int (iI vw), .ref xm, .ref xv, .int (iI vg), .ref xw, .int (iI vb), .int (iI vi), .ref xq, .int (iI ve), .int (iI vf), .int (iI vu), .int (iI vl), .ref xr, .ref xh, .ref xo, .ref xp, .int (iI vr), .int (iI pa), .int (iI vt), .int (iI vm), .int (iI pd), .int (iI px)]), (xw, aI g 72000 f), (xq, aI g 2000 fq)] [(xf, aI g 16384 fw), (xg, aI g 16384 fb), (xr, aZ g 75000 f1), (xo, aI g 75100 f2), (xp, aI g 25 f3), (xh, aZ g 25 f4)] 1 0 (c_X8_behindMark l g h0 xa xb xc xd xe xf xg xm xv xw xq xr xh xo xp vc vk vw vg vb vi ve vf vu vl vr pa vt vm pd px f fq p (by first | omega | decide | assumption) (by first | omega | decide | assumption) (by first | omega | decide | assumption) (by first | omega | decide | assumption) (by first | omega | decide | assumption)) dX8_readMarked_38 k1206 k1208 k44 k57 k1209 ykX8_behindMark rfl rfl rfl rfl rfl rfl rfl rfl (nl rfl) ⟨nl rfl, nl rfl⟩ ⟨(nl rfl), (nl rfl)⟩ rfl (fun v9 w9 hu => ?_)
            obtain ⟨r_6, rfl, rfl, u_7⟩ := hu
            refine v_is (wn := [(xf, aI g 16384 fw), (xg, aI g 16384 fb), (xr, aZ g 75000 f1), (xo, aI g 75100 f2), (xp, aI g 25 f3), (xh, aZ g 25 f4), (h0, ob 8 [.ref xa, .ref xb, .ref xc, .ref xd, .ref xe, .ref xf, .ref xg, .int (iI vc), .int (iI vk), .int (iI vw), .ref xm, .ref xv, .int (iI vg), .ref xw, .int (iI vb), .int (iI vi), .ref xq, .int (iI ve), .int (iI vf), .int (iI vu), .int (iI vl), .ref xr, .ref xh, .ref xo, .ref xp, .int (iI vr), .int (iI pa), .int (iI vt), .int (iI vm), .int (iI pd), .int (iI px)]), (xw, aI g 72000 f), (xq, aI g 2000 fq)]) (cn := 0) (sn := 0) (sn2 := [.int (iI r_6)]) rfl rfl rfl rfl ?_
            refine v_if_le fx 46 dX8_readMarked_41 (by decide) rfl (by omega) (fun h_8 => ?_) (fun h_8 => ?_)
            ·
              refine v_iload_n fx 2 dX8_readMarked_46 rfl rfl ?_
              refine v_bipush fx dX8_readMarked_47 (by decide +kernel) rfl ?_
              refine v_icmp_ne fx 55 dX8_readMarked_49 (by decide) rfl (by omega) (by omega) (fun h_9 => ?_) (fun h_9 => ?_)
              ·
                refine v_aload_n fx 1 dX8_readMarked_55 rfl rfl ?_
                refine v_iload_n fx 0 dX8_readMarked_56 rfl rfl ?_
                refine v_put fx 6 26 [(xf, aI g 16384 fw), (xg, aI g 16384 fb), (xr, aZ g 75000 f1), (xo, aI g 75100 f2), (xp, aI g 25 f3), (xh, aZ g 25 f4), (h0, ob 8 [.ref xa, .ref xb, .ref xc, .ref xd, .ref xe, .ref xf, .ref xg, .int (iI vc), .int (iI vk), .int (iI vw), .ref xm, .ref xv, .int (iI vg), .ref xw, .int (iI vb), .int (iI vi), .ref xq, .int (iI ve), .int (iI vf), .int (iI vu), .int (iI vl), .ref xr, .ref xh, .ref xo, .ref xp, .int (iI vr), .int (iI p), .int (iI vt), .int (iI vm), .int (iI pd), .int (iI px)]), (xw, aI g 72000 f), (xq, aI g 2000 fq)] inX8 tyX8_ok nmX8 k1022 dX8_readMarked_57 rfl rfl (by decide) rfl rfl rfl rfl (nl rfl) rfl rfl ?_
                refine v_aload_n fx 1 dX8_readMarked_60 rfl rfl ?_
                refine v_iload_n fx 2 dX8_readMarked_61 rfl rfl ?_
                refine v_aload_n fx 1 dX8_readMarked_62 rfl rfl ?_
                refine v_get fx 6 8 inX8 k1004 dX8_readMarked_63 rfl rfl (by decide) rfl rfl rfl ?_
                refine v_if_eq fx 78 dX8_readMarked_66 (by decide) rfl (by omega) (fun h_10 => ?_) (fun h_10 => ?_)
                ·
                  refine v_iconst fx dX8_readMarked_78 rfl ?_
                  refine v_goto fx 83 dX8_readMarked_79 (by decide) ?_
                  refine v_callV (As := [.int (iI n), .int (iI 1)]) (rest := []) fx [6, 7, 8, 0, 1, 2, 3, 4, 5] [] [(h0, ob 8 [.ref xa, .ref xb, .ref xc, .ref xd, .ref xe, .ref xf, .ref xg, .int (iI vc), .int (iI vk), .int (iI vw), .ref xm, .ref xv, .int (iI vg), .ref xw, .int (iI vb), .int (iI vi), .ref xq, .int (iI ve), .int (iI vf), .int (iI vu), .int (iI vl), .ref xr, .ref xh, .ref xo, .ref xp, .int (iI vr), .int (iI p), .int (iI vt), .int (iI vm), .int (iI pd), .int (iI px)]), (xw, aI g 72000 f), (xq, aI g 2000 fq), (xf, aI g 16384 fw), (xg, aI g 16384 fb), (xr, aZ g 75000 f1), (xo, aI g 75100 f2), (xp, aI g 25 f3), (xh, aZ g 25 f4)] [] 2 0 (c_X8_readRow l g h0 xa xb xc xd xe xf xg xm xv xw xq xr xh xo xp vc vk vw vg vb vi ve vf vu vl vr p vt vm pd px f fq fw fb f1 f2 f3 f4 n 1 (by first | omega | decide | assumption) (by first | omega | decide | assumption) (by first | omega | decide | assumption) (by first | omega | decide | assumption) (by first | omega | decide | assumption) (by first | omega | decide | assumption) (by first | omega | decide | assumption) (by first | omega | decide | assumption) (by first | omega | decide | assumption) (by first | omega | decide | assumption) (by first | omega | decide | assumption) (by first | omega | decide | assumption) (by first | omega | decide | assumption)) dX8_readMarked_83 k1170 k1172 k35 k57 k1173 ykX8_readRow rfl rfl rfl rfl rfl rfl rfl rfl (nl rfl) ⟨nl rfl, nl rfl⟩ ⟨(nl rfl), (nl rfl)⟩ rfl (fun v9 w9 hu => ?_)
                  obtain ⟨a2_11, d2_12, x2_13, g2_14, g3_15, g4_16, g5_17, rfl, rfl, u_18, u_19, u_20, u_21⟩ := hu
                  refine v_is (wn := [(h0, ob 8 [.ref xa, .ref xb, .ref xc, .ref xd, .ref xe, .ref xf, .ref xg, .int (iI vc), .int (iI vk), .int (iI vw), .ref xm, .ref xv, .int (iI vg), .ref xw, .int (iI vb), .int (iI vi), .ref xq, .int (iI ve), .int (iI vf), .int (iI vu), .int (iI vl), .ref xr, .ref xh, .ref xo, .ref xp, .int (iI vr), .int (iI a2_11), .int (iI vt), .int (iI vm), .int (iI d2_12), .int (iI x2_13)]), (xw, aI g 72000 f), (xq, aI g 2000 fq), (xf, aI g 16384 fw), (xg, aI g 16384 fb), (xr, aZ g 75000 g2_14), (xo, aI g 75100 g3_15), (xp, aI g 25 g4_16), (xh, aZ g 25 g5_17)]) (cn := 0) (sn := 0) (sn2 := []) rfl rfl rfl rfl ?_
                  refine v_aload_n fx 1 dX8_readMarked_86 rfl rfl ?_
                  refine v_get fx 0 30 inX8 k1026 dX8_readMarked_87 rfl rfl (by decide) rfl rfl rfl ?_
                  refine v_if_eq fx 96 dX8_readMarked_90 (by decide) rfl (by omega) (fun h_22 => ?_) (fun h_22 => ?_)
                  ·
                    refine v_iinc fx 2 (n + 1) [(1, .int (iI (n + 1))), (3, .int (iI p)), (0, .ref h0), (2, .int (iI p))] dX8_readMarked_96 rfl (by omega) (by decide) rfl rfl ?_
                    refine v_aload_n fx 2 dX8_readMarked_99 rfl rfl ?_
                    refine v_aload_n fx 2 dX8_readMarked_100 rfl rfl ?_
                    refine v_get fx 0 26 inX8 k1022 dX8_readMarked_101 rfl rfl (by decide) rfl rfl rfl ?_
                    refine v_callV (As := [.int (iI a2_11)]) (rest := []) fx [0, 1, 2] [3, 4, 5, 6, 7, 8] [(h0, ob 8 [.ref xa, .ref xb, .ref xc, .ref xd, .ref xe, .ref xf, .ref xg, .int (iI vc), .int (iI vk), .int (iI vw), .ref xm, .ref xv, .int (iI vg), .ref xw, .int (iI vb), .int (iI vi), .ref xq, .int (iI ve), .int (iI vf), .int (iI vu), .int (iI vl), .ref xr, .ref xh, .ref xo, .ref xp, .int (iI vr), .int (iI a2_11), .int (iI vt), .int (iI vm), .int (iI d2_12), .int (iI x2_13)]), (xw, aI g 72000 f), (xq, aI g 2000 fq)] [(xf, aI g 16384 fw), (xg, aI g 16384 fb), (xr, aZ g 75000 g2_14), (xo, aI g 75100 g3_15), (xp, aI g 25 g4_16), (xh, aZ g 25 g5_17)] 1 0 (c_X8_findMark l g h0 xa xb xc xd xe xf xg xm xv xw xq xr xh xo xp vc vk vw vg vb vi ve vf vu vl vr a2_11 vt vm d2_12 x2_13 f fq a2_11 (by first | omega | decide | assumption) (by first | omega | decide | assumption) (by first | omega | decide | assumption) (by first | omega | decide | assumption) (by first | omega | decide | assumption)) dX8_readMarked_104 k1202 k1204 k43 k57 k1205 ykX8_findMark rfl rfl rfl rfl rfl rfl rfl rfl (nl rfl) ⟨nl rfl, nl rfl⟩ ⟨(nl rfl), (nl rfl)⟩ rfl (fun v9 w9 hu => ?_)
                    obtain ⟨r_23, rfl, rfl, u_24⟩ := hu
                    refine v_is (wn := [(xf, aI g 16384 fw), (xg, aI g 16384 fb), (xr, aZ g 75000 g2_14), (xo, aI g 75100 g3_15), (xp, aI g 25 g4_16), (xh, aZ g 25 g5_17), (h0, ob 8 [.ref xa, .ref xb, .ref xc, .ref xd, .ref xe, .ref xf, .ref xg, .int (iI vc), .int (iI vk), .int (iI vw), .ref xm, .ref xv, .int (iI vg), .ref xw, .int (iI vb), .int (iI vi), .ref xq, .int (iI ve), .int (iI vf), .int (iI vu), .int (iI vl), .ref xr, .ref xh, .ref xo, .ref xp, .int (iI vr), .int (iI a2_11), .int (iI vt), .int (iI vm), .int (iI d2_12), .int (iI x2_13)]), (xw, aI g 72000 f), (xq, aI g 2000 fq)]) (cn := 0) (sn := 0) (sn2 := [.int (iI r_23)]) rfl rfl rfl rfl ?_
                    refine v_istore_n fx [(2, .int (iI r_23)), (1, .int (iI (n + 1))), (3, .int (iI p)), (0, .ref h0)] dX8_readMarked_107 (by decide) rfl rfl ?_
                    refine v_goto fx 8 dX8_readMarked_108 (by decide) ?_
                    refine v_ws [6, 7, 8, 0, 1, 2, 3, 4, 5] [(h0, ob 8 [.ref xa, .ref xb, .ref xc, .ref xd, .ref xe, .ref xf, .ref xg, .int (iI vc), .int (iI vk), .int (iI vw), .ref xm, .ref xv, .int (iI vg), .ref xw, .int (iI vb), .int (iI vi), .ref xq, .int (iI ve), .int (iI vf), .int (iI vu), .int (iI vl), .ref xr, .ref xh, .ref xo, .ref xp, .int (iI vr), .int (iI a2_11), .int (iI vt), .int (iI vm), .int (iI d2_12), .int (iI x2_13)]), (xw, aI g 72000 f), (xq, aI g 2000 fq), (xf, aI g 16384 fw), (xg, aI g 16384 fb), (xr, aZ g 75000 g2_14), (xo, aI g 75100 g3_15), (xp, aI g 25 g4_16), (xh, aZ g 25 g5_17)] rfl rfl ?_
                    refine v_lv [3, 1, 0] [(0, .ref h0), (1, .int (iI (n + 1))), (2, .int (iI r_23))] rfl ?_
                    exact ihL8 (n + 1) r_23 a2_11 d2_12 x2_13 g2_14 g3_15 g4_16 g5_17 (by omega) (by omega) (by omega) (by assumption) (by omega)
                  ·
                    refine v_bipush fx dX8_readMarked_93 (by decide +kernel) rfl ?_
                    exact v_iret fx [(h0, ob 8 [.ref xa, .ref xb, .ref xc, .ref xd, .ref xe, .ref xf, .ref xg, .int (iI vc), .int (iI vk), .int (iI vw), .ref xm, .ref xv, .int (iI vg), .ref xw, .int (iI vb), .int (iI vi), .ref xq, .int (iI ve), .int (iI vf), .int (iI vu), .int (iI vl), .ref xr, .ref xh, .ref xo, .ref xp, .int (iI vr), .int (iI a2_11), .int (iI vt), .int (iI vm), .int (iI d2_12), .int (iI x2_13)]), (xw, aI g 72000 f), (xq, aI g 2000 fq), (xf, aI g 16384 fw), (xg, aI g 16384 fb), (xr, aZ g 75000 g2_14), (xo, aI g 75100 g3_15), (xp, aI g 25 g4_16), (xh, aZ g 25 g5_17)] [0, 1, 2, 3, 4, 5, 6, 7, 8] hr dX8_readMarked_95 rfl rfl (nl rfl) (nl rfl) ⟨(-2), a2_11, d2_12, x2_13, g2_14, g3_15, g4_16, g5_17, rfl, rfl, (by first | omega | rfl | assumption), (by assumption)⟩
                ·
                  refine v_aload_n fx 1 dX8_readMarked_69 rfl rfl ?_
                  refine v_iload_n fx 3 dX8_readMarked_70 rfl rfl ?_
                  refine v_callV (As := [.int (iI p)]) (rest := [.int (iI n), .ref h0]) fx [6, 7, 8] [0, 1, 2, 3, 4, 5] [(h0, ob 8 [.ref xa, .ref xb, .ref xc, .ref xd, .ref xe, .ref xf, .ref xg, .int (iI vc), .int (iI vk), .int (iI vw), .ref xm, .ref xv, .int (iI vg), .ref xw, .int (iI vb), .int (iI vi), .ref xq, .int (iI ve), .int (iI vf), .int (iI vu), .int (iI vl), .ref xr, .ref xh, .ref xo, .ref xp, .int (iI vr), .int (iI p), .int (iI vt), .int (iI vm), .int (iI pd), .int (iI px)]), (xw, aI g 72000 f), (xq, aI g 2000 fq)] [(xf, aI g 16384 fw), (xg, aI g 16384 fb), (xr, aZ g 75000 f1), (xo, aI g 75100 f2), (xp, aI g 25 f3), (xh, aZ g 25 f4)] 1 0 (c_X8_bitAt l g h0 xa xb xc xd xe xf xg xm xv xw xq xr xh xo xp vc vk vw vg vb vi ve vf vu vl vr p vt vm pd px f fq p (by first | omega | decide | assumption) (by first | omega | decide | assumption) (by first | omega | decide | assumption) (by first | omega | decide | assumption) (by first | omega | decide | assumption)) dX8_readMarked_71 k1166 k1168 k34 k57 k1169 ykX8_bitAt rfl rfl rfl rfl rfl rfl rfl rfl (nl rfl) ⟨nl rfl, nl rfl⟩ ⟨(nl rfl), (nl rfl)⟩ rfl (fun v9 w9 hu => ?_)
                  obtain ⟨bt, rfl, rfl, u_25⟩ := hu
                  refine v_is (wn := [(xf, aI g 16384 fw), (xg, aI g 16384 fb), (xr, aZ g 75000 f1), (xo, aI g 75100 f2), (xp, aI g 25 f3), (xh, aZ g 25 f4), (h0, ob 8 [.ref xa, .ref xb, .ref xc, .ref xd, .ref xe, .ref xf, .ref xg, .int (iI vc), .int (iI vk), .int (iI vw), .ref xm, .ref xv, .int (iI vg), .ref xw, .int (iI vb), .int (iI vi), .ref xq, .int (iI ve), .int (iI vf), .int (iI vu), .int (iI vl), .ref xr, .ref xh, .ref xo, .ref xp, .int (iI vr), .int (iI p), .int (iI vt), .int (iI vm), .int (iI pd), .int (iI px)]), (xw, aI g 72000 f), (xq, aI g 2000 fq)]) (cn := 0) (sn := 0) (sn2 := [.int (iI bt), .int (iI n), .ref h0]) rfl rfl rfl rfl ?_
                  refine v_iconst fx dX8_readMarked_74 rfl ?_
                  refine v_icmp_ne fx 82 dX8_readMarked_75 (by decide) rfl (by omega) (by omega) (fun h_26 => ?_) (fun h_26 => ?_)
                  ·
                    refine v_iconst fx dX8_readMarked_82 rfl ?_
                    refine v_callV (As := [.int (iI n), .int (iI 0)]) (rest := []) fx [6, 7, 8, 0, 1, 2, 3, 4, 5] [] [(h0, ob 8 [.ref xa, .ref xb, .ref xc, .ref xd, .ref xe, .ref xf, .ref xg, .int (iI vc), .int (iI vk), .int (iI vw), .ref xm, .ref xv, .int (iI vg), .ref xw, .int (iI vb), .int (iI vi), .ref xq, .int (iI ve), .int (iI vf), .int (iI vu), .int (iI vl), .ref xr, .ref xh, .ref xo, .ref xp, .int (iI vr), .int (iI p), .int (iI vt), .int (iI vm), .int (iI pd), .int (iI px)]), (xw, aI g 72000 f), (xq, aI g 2000 fq), (xf, aI g 16384 fw), (xg, aI g 16384 fb), (xr, aZ g 75000 f1), (xo, aI g 75100 f2), (xp, aI g 25 f3), (xh, aZ g 25 f4)] [] 2 0 (c_X8_readRow l g h0 xa xb xc xd xe xf xg xm xv xw xq xr xh xo xp vc vk vw vg vb vi ve vf vu vl vr p vt vm pd px f fq fw fb f1 f2 f3 f4 n 0 (by first | omega | decide | assumption) (by first | omega | decide | assumption) (by first | omega | decide | assumption) (by first | omega | decide | assumption) (by first | omega | decide | assumption) (by first | omega | decide | assumption) (by first | omega | decide | assumption) (by first | omega | decide | assumption) (by first | omega | decide | assumption) (by first | omega | decide | assumption) (by first | omega | decide | assumption) (by first | omega | decide | assumption) (by first | omega | decide | assumption)) dX8_readMarked_83 k1170 k1172 k35 k57 k1173 ykX8_readRow rfl rfl rfl rfl rfl rfl rfl rfl (nl rfl) ⟨nl rfl, nl rfl⟩ ⟨(nl rfl), (nl rfl)⟩ rfl (fun v9 w9 hu => ?_)
                    obtain ⟨a2_27, d2_28, x2_29, g2_30, g3_31, g4_32, g5_33, rfl, rfl, u_34, u_35, u_36, u_37⟩ := hu
                    refine v_is (wn := [(h0, ob 8 [.ref xa, .ref xb, .ref xc, .ref xd, .ref xe, .ref xf, .ref xg, .int (iI vc), .int (iI vk), .int (iI vw), .ref xm, .ref xv, .int (iI vg), .ref xw, .int (iI vb), .int (iI vi), .ref xq, .int (iI ve), .int (iI vf), .int (iI vu), .int (iI vl), .ref xr, .ref xh, .ref xo, .ref xp, .int (iI vr), .int (iI a2_27), .int (iI vt), .int (iI vm), .int (iI d2_28), .int (iI x2_29)]), (xw, aI g 72000 f), (xq, aI g 2000 fq), (xf, aI g 16384 fw), (xg, aI g 16384 fb), (xr, aZ g 75000 g2_30), (xo, aI g 75100 g3_31), (xp, aI g 25 g4_32), (xh, aZ g 25 g5_33)]) (cn := 0) (sn := 0) (sn2 := []) rfl rfl rfl rfl ?_
                    refine v_aload_n fx 1 dX8_readMarked_86 rfl rfl ?_
                    refine v_get fx 0 30 inX8 k1026 dX8_readMarked_87 rfl rfl (by decide) rfl rfl rfl ?_
                    refine v_if_eq fx 96 dX8_readMarked_90 (by decide) rfl (by omega) (fun h_38 => ?_) (fun h_38 => ?_)
                    ·
                      refine v_iinc fx 2 (n + 1) [(1, .int (iI (n + 1))), (3, .int (iI p)), (0, .ref h0), (2, .int (iI p))] dX8_readMarked_96 rfl (by omega) (by decide) rfl rfl ?_
                      refine v_aload_n fx 2 dX8_readMarked_99 rfl rfl ?_
                      refine v_aload_n fx 2 dX8_readMarked_100 rfl rfl ?_
                      refine v_get fx 0 26 inX8 k1022 dX8_readMarked_101 rfl rfl (by decide) rfl rfl rfl ?_
                      refine v_callV (As := [.int (iI a2_27)]) (rest := []) fx [0, 1, 2] [3, 4, 5, 6, 7, 8] [(h0, ob 8 [.ref xa, .ref xb, .ref xc, .ref xd, .ref xe, .ref xf, .ref xg, .int (iI vc), .int (iI vk), .int (iI vw), .ref xm, .ref xv, .int (iI vg), .ref xw, .int (iI vb), .int (iI vi), .ref xq, .int (iI ve), .int (iI vf), .int (iI vu), .int (iI vl), .ref xr, .ref xh, .ref xo, .ref xp, .int (iI vr), .int (iI a2_27), .int (iI vt), .int (iI vm), .int (iI d2_28), .int (iI x2_29)]), (xw, aI g 72000 f), (xq, aI g 2000 fq)] [(xf, aI g 16384 fw), (xg, aI g 16384 fb), (xr, aZ g 75000 g2_30), (xo, aI g 75100 g3_31), (xp, aI g 25 g4_32), (xh, aZ g 25 g5_33)] 1 0 (c_X8_findMark l g h0 xa xb xc xd xe xf xg xm xv xw xq xr xh xo xp vc vk vw vg vb vi ve vf vu vl vr a2_27 vt vm d2_28 x2_29 f fq a2_27 (by first | omega | decide | assumption) (by first | omega | decide | assumption) (by first | omega | decide | assumption) (by first | omega | decide | assumption) (by first | omega | decide | assumption)) dX8_readMarked_104 k1202 k1204 k43 k57 k1205 ykX8_findMark rfl rfl rfl rfl rfl rfl rfl rfl (nl rfl) ⟨nl rfl, nl rfl⟩ ⟨(nl rfl), (nl rfl)⟩ rfl (fun v9 w9 hu => ?_)
                      obtain ⟨r_39, rfl, rfl, u_40⟩ := hu
                      refine v_is (wn := [(xf, aI g 16384 fw), (xg, aI g 16384 fb), (xr, aZ g 75000 g2_30), (xo, aI g 75100 g3_31), (xp, aI g 25 g4_32), (xh, aZ g 25 g5_33), (h0, ob 8 [.ref xa, .ref xb, .ref xc, .ref xd, .ref xe, .ref xf, .ref xg, .int (iI vc), .int (iI vk), .int (iI vw), .ref xm, .ref xv, .int (iI vg), .ref xw, .int (iI vb), .int (iI vi), .ref xq, .int (iI ve), .int (iI vf), .int (iI vu), .int (iI vl), .ref xr, .ref xh, .ref xo, .ref xp, .int (iI vr), .int (iI a2_27), .int (iI vt), .int (iI vm), .int (iI d2_28), .int (iI x2_29)]), (xw, aI g 72000 f), (xq, aI g 2000 fq)]) (cn := 0) (sn := 0) (sn2 := [.int (iI r_39)]) rfl rfl rfl rfl ?_
                      refine v_istore_n fx [(2, .int (iI r_39)), (1, .int (iI (n + 1))), (3, .int (iI p)), (0, .ref h0)] dX8_readMarked_107 (by decide) rfl rfl ?_
                      refine v_goto fx 8 dX8_readMarked_108 (by decide) ?_
                      refine v_ws [6, 7, 8, 0, 1, 2, 3, 4, 5] [(h0, ob 8 [.ref xa, .ref xb, .ref xc, .ref xd, .ref xe, .ref xf, .ref xg, .int (iI vc), .int (iI vk), .int (iI vw), .ref xm, .ref xv, .int (iI vg), .ref xw, .int (iI vb), .int (iI vi), .ref xq, .int (iI ve), .int (iI vf), .int (iI vu), .int (iI vl), .ref xr, .ref xh, .ref xo, .ref xp, .int (iI vr), .int (iI a2_27), .int (iI vt), .int (iI vm), .int (iI d2_28), .int (iI x2_29)]), (xw, aI g 72000 f), (xq, aI g 2000 fq), (xf, aI g 16384 fw), (xg, aI g 16384 fb), (xr, aZ g 75000 g2_30), (xo, aI g 75100 g3_31), (xp, aI g 25 g4_32), (xh, aZ g 25 g5_33)] rfl rfl ?_
                      refine v_lv [3, 1, 0] [(0, .ref h0), (1, .int (iI (n + 1))), (2, .int (iI r_39))] rfl ?_
                      exact ihL8 (n + 1) r_39 a2_27 d2_28 x2_29 g2_30 g3_31 g4_32 g5_33 (by omega) (by omega) (by omega) (by assumption) (by omega)
                    ·
                      refine v_bipush fx dX8_readMarked_93 (by decide +kernel) rfl ?_
                      exact v_iret fx [(h0, ob 8 [.ref xa, .ref xb, .ref xc, .ref xd, .ref xe, .ref xf, .ref xg, .int (iI vc), .int (iI vk), .int (iI vw), .ref xm, .ref xv, .int (iI vg), .ref xw, .int (iI vb), .int (iI vi), .ref xq, .int (iI ve), .int (iI vf), .int (iI vu), .int (iI vl), .ref xr, .ref xh, .ref xo, .ref xp, .int (iI vr), .int (iI a2_27), .int (iI vt), .int (iI vm), .int (iI d2_28), .int (iI x2_29)]), (xw, aI g 72000 f), (xq, aI g 2000 fq), (xf, aI g 16384 fw), (xg, aI g 16384 fb), (xr, aZ g 75000 g2_30), (xo, aI g 75100 g3_31), (xp, aI g 25 g4_32), (xh, aZ g 25 g5_33)] [0, 1, 2, 3, 4, 5, 6, 7, 8] hr dX8_readMarked_95 rfl rfl (nl rfl) (nl rfl) ⟨(-2), a2_27, d2_28, x2_29, g2_30, g3_31, g4_32, g5_33, rfl, rfl, (by first | omega | rfl | assumption), (by assumption)⟩
                  ·
                    refine v_iconst fx dX8_readMarked_78 rfl ?_
                    refine v_goto fx 83 dX8_readMarked_79 (by decide) ?_
                    refine v_callV (As := [.int (iI n), .int (iI 1)]) (rest := []) fx [6, 7, 8, 0, 1, 2, 3, 4, 5] [] [(h0, ob 8 [.ref xa, .ref xb, .ref xc, .ref xd, .ref xe, .ref xf, .ref xg, .int (iI vc), .int (iI vk), .int (iI vw), .ref xm, .ref xv, .int (iI vg), .ref xw, .int (iI vb), .int (iI vi), .ref xq, .int (iI ve), .int (iI vf), .int (iI vu), .int (iI vl), .ref xr, .ref xh, .ref xo, .ref xp, .int (iI vr), .int (iI p), .int (iI vt), .int (iI vm), .int (iI pd), .int (iI px)]), (xw, aI g 72000 f), (xq, aI g 2000 fq), (xf, aI g 16384 fw), (xg, aI g 16384 fb), (xr, aZ g 75000 f1), (xo, aI g 75100 f2), (xp, aI g 25 f3), (xh, aZ g 25 f4)] [] 2 0 (c_X8_readRow l g h0 xa xb xc xd xe xf xg xm xv xw xq xr xh xo xp vc vk vw vg vb vi ve vf vu vl vr p vt vm pd px f fq fw fb f1 f2 f3 f4 n 1 (by first | omega | decide | assumption) (by first | omega | decide | assumption) (by first | omega | decide | assumption) (by first | omega | decide | assumption) (by first | omega | decide | assumption) (by first | omega | decide | assumption) (by first | omega | decide | assumption) (by first | omega | decide | assumption) (by first | omega | decide | assumption) (by first | omega | decide | assumption) (by first | omega | decide | assumption) (by first | omega | decide | assumption) (by first | omega | decide | assumption)) dX8_readMarked_83 k1170 k1172 k35 k57 k1173 ykX8_readRow rfl rfl rfl rfl rfl rfl rfl rfl (nl rfl) ⟨nl rfl, nl rfl⟩ ⟨(nl rfl), (nl rfl)⟩ rfl (fun v9 w9 hu => ?_)
                    obtain ⟨a2_41, d2_42, x2_43, g2_44, g3_45, g4_46, g5_47, rfl, rfl, u_48, u_49, u_50, u_51⟩ := hu
                    refine v_is (wn := [(h0, ob 8 [.ref xa, .ref xb, .ref xc, .ref xd, .ref xe, .ref xf, .ref xg, .int (iI vc), .int (iI vk), .int (iI vw), .ref xm, .ref xv, .int (iI vg), .ref xw, .int (iI vb), .int (iI vi), .ref xq, .int (iI ve), .int (iI vf), .int (iI vu), .int (iI vl), .ref xr, .ref xh, .ref xo, .ref xp, .int (iI vr), .int (iI a2_41), .int (iI vt), .int (iI vm), .int (iI d2_42), .int (iI x2_43)]), (xw, aI g 72000 f), (xq, aI g 2000 fq), (xf, aI g 16384 fw), (xg, aI g 16384 fb), (xr, aZ g 75000 g2_44), (xo, aI g 75100 g3_45), (xp, aI g 25 g4_46), (xh, aZ g 25 g5_47)]) (cn := 0) (sn := 0) (sn2 := []) rfl rfl rfl rfl ?_
                    refine v_aload_n fx 1 dX8_readMarked_86 rfl rfl ?_
                    refine v_get fx 0 30 inX8 k1026 dX8_readMarked_87 rfl rfl (by decide) rfl rfl rfl ?_
                    refine v_if_eq fx 96 dX8_readMarked_90 (by decide) rfl (by omega) (fun h_52 => ?_) (fun h_52 => ?_)
                    ·
                      refine v_iinc fx 2 (n + 1) [(1, .int (iI (n + 1))), (3, .int (iI p)), (0, .ref h0), (2, .int (iI p))] dX8_readMarked_96 rfl (by omega) (by decide) rfl rfl ?_
                      refine v_aload_n fx 2 dX8_readMarked_99 rfl rfl ?_
                      refine v_aload_n fx 2 dX8_readMarked_100 rfl rfl ?_
                      refine v_get fx 0 26 inX8 k1022 dX8_readMarked_101 rfl rfl (by decide) rfl rfl rfl ?_
                      refine v_callV (As := [.int (iI a2_41)]) (rest := []) fx [0, 1, 2] [3, 4, 5, 6, 7, 8] [(h0, ob 8 [.ref xa, .ref xb, .ref xc, .ref xd, .ref xe, .ref xf, .ref xg, .int (iI vc), .int (iI vk), .int (iI vw), .ref xm, .ref xv, .int (iI vg), .ref xw, .int (iI vb), .int (iI vi), .ref xq, .int (iI ve), .int (iI vf), .int (iI vu), .int (iI vl), .ref xr, .ref xh, .ref xo, .ref xp, .int (iI vr), .int (iI a2_41), .int (iI vt), .int (iI vm), .int (iI d2_42), .int (iI x2_43)]), (xw, aI g 72000 f), (xq, aI g 2000 fq)] [(xf, aI g 16384 fw), (xg, aI g 16384 fb), (xr, aZ g 75000 g2_44), (xo, aI g 75100 g3_45), (xp, aI g 25 g4_46), (xh, aZ g 25 g5_47)] 1 0 (c_X8_findMark l g h0 xa xb xc xd xe xf xg xm xv xw xq xr xh xo xp vc vk vw vg vb vi ve vf vu vl vr a2_41 vt vm d2_42 x2_43 f fq a2_41 (by first | omega | decide | assumption) (by first | omega | decide | assumption) (by first | omega | decide | assumption) (by first | omega | decide | assumption) (by first | omega | decide | assumption)) dX8_readMarked_104 k1202 k1204 k43 k57 k1205 ykX8_findMark rfl rfl rfl rfl rfl rfl rfl rfl (nl rfl) ⟨nl rfl, nl rfl⟩ ⟨(nl rfl), (nl rfl)⟩ rfl (fun v9 w9 hu => ?_)
                      obtain ⟨r_53, rfl, rfl, u_54⟩ := hu
                      refine v_is (wn := [(xf, aI g 16384 fw), (xg, aI g 16384 fb), (xr, aZ g 75000 g2_44), (xo, aI g 75100 g3_45), (xp, aI g 25 g4_46), (xh, aZ g 25 g5_47), (h0, ob 8 [.ref xa, .ref xb, .ref xc, .ref xd, .ref xe, .ref xf, .ref xg, .int (iI vc), .int (iI vk), .int (iI vw), .ref xm, .ref xv, .int (iI vg), .ref xw, .int (iI vb), .int (iI vi), .ref xq, .int (iI ve), .int (iI vf), .int (iI vu), .int (iI vl), .ref xr, .ref xh, .ref xo, .ref xp, .int (iI vr), .int (iI a2_41), .int (iI vt), .int (iI vm), .int (iI d2_42), .int (iI x2_43)]), (xw, aI g 72000 f), (xq, aI g 2000 fq)]) (cn := 0) (sn := 0) (sn2 := [.int (iI r_53)]) rfl rfl rfl rfl ?_
                      refine v_istore_n fx [(2, .int (iI r_53)), (1, .int (iI (n + 1))), (3, .int (iI p)), (0, .ref h0)] dX8_readMarked_107 (by decide) rfl rfl ?_
                      refine v_goto fx 8 dX8_readMarked_108 (by decide) ?_
                      refine v_ws [6, 7, 8, 0, 1, 2, 3, 4, 5] [(h0, ob 8 [.ref xa, .ref xb, .ref xc, .ref xd, .ref xe, .ref xf, .ref xg, .int (iI vc), .int (iI vk), .int (iI vw), .ref xm, .ref xv, .int (iI vg), .ref xw, .int (iI vb), .int (iI vi), .ref xq, .int (iI ve), .int (iI vf), .int (iI vu), .int (iI vl), .ref xr, .ref xh, .ref xo, .ref xp, .int (iI vr), .int (iI a2_41), .int (iI vt), .int (iI vm), .int (iI d2_42), .int (iI x2_43)]), (xw, aI g 72000 f), (xq, aI g 2000 fq), (xf, aI g 16384 fw), (xg, aI g 16384 fb), (xr, aZ g 75000 g2_44), (xo, aI g 75100 g3_45), (xp, aI g 25 g4_46), (xh, aZ g 25 g5_47)] rfl rfl ?_
                      refine v_lv [3, 1, 0] [(0, .ref h0), (1, .int (iI (n + 1))), (2, .int (iI r_53))] rfl ?_
                      exact ihL8 (n + 1) r_53 a2_41 d2_42 x2_43 g2_44 g3_45 g4_46 g5_47 (by omega) (by omega) (by omega) (by assumption) (by omega)
                    ·
                      refine v_bipush fx dX8_readMarked_93 (by decide +kernel) rfl ?_
                      exact v_iret fx [(h0, ob 8 [.ref xa, .ref xb, .ref xc, .ref xd, .ref xe, .ref xf, .ref xg, .int (iI vc), .int (iI vk), .int (iI vw), .ref xm, .ref xv, .int (iI vg), .ref xw, .int (iI vb), .int (iI vi), .ref xq, .int (iI ve), .int (iI vf), .int (iI vu), .int (iI vl), .ref xr, .ref xh, .ref xo, .ref xp, .int (iI vr), .int (iI a2_41), .int (iI vt), .int (iI vm), .int (iI d2_42), .int (iI x2_43)]), (xw, aI g 72000 f), (xq, aI g 2000 fq), (xf, aI g 16384 fw), (xg, aI g 16384 fb), (xr, aZ g 75000 g2_44), (xo, aI g 75100 g3_45), (xp, aI g 25 g4_46), (xh, aZ g 25 g5_47)] [0, 1, 2, 3, 4, 5, 6, 7, 8] hr dX8_readMarked_95 rfl rfl (nl rfl) (nl rfl) ⟨(-2), a2_41, d2_42, x2_43, g2_44, g3_45, g4_46, g5_47, rfl, rfl, (by first | omega | rfl | assumption), (by assumption)⟩
              ·
                refine v_bipush fx dX8_readMarked_52 (by decide +kernel) rfl ?_
                exact v_iret fx [(h0, ob 8 [.ref xa, .ref xb, .ref xc, .ref xd, .ref xe, .ref xf, .ref xg, .int (iI vc), .int (iI vk), .int (iI vw), .ref xm, .ref xv, .int (iI vg), .ref xw, .int (iI vb), .int (iI vi), .ref xq, .int (iI ve), .int (iI vf), .int (iI vu), .int (iI vl), .ref xr, .ref xh, .ref xo, .ref xp, .int (iI vr), .int (iI pa), .int (iI vt), .int (iI vm), .int (iI pd), .int (iI px)]), (xw, aI g 72000 f), (xq, aI g 2000 fq), (xf, aI g 16384 fw), (xg, aI g 16384 fb), (xr, aZ g 75000 f1), (xo, aI g 75100 f2), (xp, aI g 25 f3), (xh, aZ g 25 f4)] [6, 7, 8, 0, 1, 2, 3, 4, 5] hr dX8_readMarked_54 rfl rfl (nl rfl) (nl rfl) ⟨(-3), pa, pd, px, f1, f2, f3, f4, rfl, rfl, (by first | omega | rfl | assumption), (by exact hi8_3)⟩
            ·
              refine v_iload_n fx 2 dX8_readMarked_44 rfl rfl ?_
              exact v_iret fx [(h0, ob 8 [.ref xa, .ref xb, .ref xc, .ref xd, .ref xe, .ref xf, .ref xg, .int (iI vc), .int (iI vk), .int (iI vw), .ref xm, .ref xv, .int (iI vg), .ref xw, .int (iI vb), .int (iI vi), .ref xq, .int (iI ve), .int (iI vf), .int (iI vu), .int (iI vl), .ref xr, .ref xh, .ref xo, .ref xp, .int (iI vr), .int (iI pa), .int (iI vt), .int (iI vm), .int (iI pd), .int (iI px)]), (xw, aI g 72000 f), (xq, aI g 2000 fq), (xf, aI g 16384 fw), (xg, aI g 16384 fb), (xr, aZ g 75000 f1), (xo, aI g 75100 f2), (xp, aI g 25 f3), (xh, aZ g 25 f4)] [6, 7, 8, 0, 1, 2, 3, 4, 5] hr dX8_readMarked_45 rfl rfl (nl rfl) (nl rfl) ⟨n, pa, pd, px, f1, f2, f3, f4, rfl, rfl, (by first | omega | rfl | assumption), (by exact hi8_3)⟩
        ·
          refine v_iload_n fx 2 dX8_readMarked_20 rfl rfl ?_
          refine v_iconst fx dX8_readMarked_21 rfl ?_
          refine v_iadd fx (p + 1) dX8_readMarked_22 (by rfl) rfl ?_
          refine v_goto fx 27 dX8_readMarked_23 (by decide) ?_
          refine v_istore_n fx [(3, .int (iI (p + 1))), (0, .ref h0), (1, .int (iI n)), (2, .int (iI p))] dX8_readMarked_27 (by decide) rfl rfl ?_
          refine v_iload_n fx 0 dX8_readMarked_28 rfl rfl ?_
          refine v_aload_n fx 1 dX8_readMarked_29 rfl rfl ?_
          refine v_get fx 0 27 inX8 k1023 dX8_readMarked_30 rfl rfl (by decide) rfl rfl rfl ?_
          refine v_icmp_gt fx 44 dX8_readMarked_33 (by decide) rfl (by omega) (by omega) (fun h_55 => ?_) (fun h_55 => ?_)
          ·
            refine v_iload_n fx 2 dX8_readMarked_44 rfl rfl ?_
            exact v_iret fx [(h0, ob 8 [.ref xa, .ref xb, .ref xc, .ref xd, .ref xe, .ref xf, .ref xg, .int (iI vc), .int (iI vk), .int (iI vw), .ref xm, .ref xv, .int (iI vg), .ref xw, .int (iI vb), .int (iI vi), .ref xq, .int (iI ve), .int (iI vf), .int (iI vu), .int (iI vl), .ref xr, .ref xh, .ref xo, .ref xp, .int (iI vr), .int (iI pa), .int (iI vt), .int (iI vm), .int (iI pd), .int (iI px)]), (xw, aI g 72000 f), (xq, aI g 2000 fq), (xf, aI g 16384 fw), (xg, aI g 16384 fb), (xr, aZ g 75000 f1), (xo, aI g 75100 f2), (xp, aI g 25 f3), (xh, aZ g 25 f4)] [0, 1, 2, 3, 4, 5, 6, 7, 8] hr dX8_readMarked_45 rfl rfl (nl rfl) (nl rfl) ⟨n, pa, pd, px, f1, f2, f3, f4, rfl, rfl, (by first | omega | rfl | assumption), (by exact hi8_3)⟩
          ·
            refine v_aload_n fx 1 dX8_readMarked_36 rfl rfl ?_
            refine v_iload_n fx 0 dX8_readMarked_37 rfl rfl ?_
            refine v_callV (As := [.int (iI (p + 1))]) (rest := []) fx [0, 1, 2] [3, 4, 5, 6, 7, 8] [(h0, ob 8 [.ref xa, .ref xb, .ref xc, .ref xd, .ref xe, .ref xf, .ref xg, .int (iI vc), .int (iI vk), .int (iI vw), .ref xm, .ref xv, .int (iI vg), .ref xw, .int (iI vb), .int (iI vi), .ref xq, .int (iI ve), .int (iI vf), .int (iI vu), .int (iI vl), .ref xr, .ref xh, .ref xo, .ref xp, .int (iI vr), .int (iI pa), .int (iI vt), .int (iI vm), .int (iI pd), .int (iI px)]), (xw, aI g 72000 f), (xq, aI g 2000 fq)] [(xf, aI g 16384 fw), (xg, aI g 16384 fb), (xr, aZ g 75000 f1), (xo, aI g 75100 f2), (xp, aI g 25 f3), (xh, aZ g 25 f4)] 1 0 (c_X8_behindMark l g h0 xa xb xc xd xe xf xg xm xv xw xq xr xh xo xp vc vk vw vg vb vi ve vf vu vl vr pa vt vm pd px f fq (p + 1) (by first | omega | decide | assumption) (by first | omega | decide | assumption) (by first | omega | decide | assumption) (by first | omega | decide | assumption) (by first | omega | decide | assumption)) dX8_readMarked_38 k1206 k1208 k44 k57 k1209 ykX8_behindMark rfl rfl rfl rfl rfl rfl rfl rfl (nl rfl) ⟨nl rfl, nl rfl⟩ ⟨(nl rfl), (nl rfl)⟩ rfl (fun v9 w9 hu => ?_)
            obtain ⟨r_56, rfl, rfl, u_57⟩ := hu
            refine v_is (wn := [(xf, aI g 16384 fw), (xg, aI g 16384 fb), (xr, aZ g 75000 f1), (xo, aI g 75100 f2), (xp, aI g 25 f3), (xh, aZ g 25 f4), (h0, ob 8 [.ref xa, .ref xb, .ref xc, .ref xd, .ref xe, .ref xf, .ref xg, .int (iI vc), .int (iI vk), .int (iI vw), .ref xm, .ref xv, .int (iI vg), .ref xw, .int (iI vb), .int (iI vi), .ref xq, .int (iI ve), .int (iI vf), .int (iI vu), .int (iI vl), .ref xr, .ref xh, .ref xo, .ref xp, .int (iI vr), .int (iI pa), .int (iI vt), .int (iI vm), .int (iI pd), .int (iI px)]), (xw, aI g 72000 f), (xq, aI g 2000 fq)]) (cn := 0) (sn := 0) (sn2 := [.int (iI r_56)]) rfl rfl rfl rfl ?_
            refine v_if_le fx 46 dX8_readMarked_41 (by decide) rfl (by omega) (fun h_58 => ?_) (fun h_58 => ?_)
            ·
              refine v_iload_n fx 2 dX8_readMarked_46 rfl rfl ?_
              refine v_bipush fx dX8_readMarked_47 (by decide +kernel) rfl ?_
              refine v_icmp_ne fx 55 dX8_readMarked_49 (by decide) rfl (by omega) (by omega) (fun h_59 => ?_) (fun h_59 => ?_)
              ·
                refine v_aload_n fx 1 dX8_readMarked_55 rfl rfl ?_
                refine v_iload_n fx 0 dX8_readMarked_56 rfl rfl ?_
                refine v_put fx 6 26 [(xf, aI g 16384 fw), (xg, aI g 16384 fb), (xr, aZ g 75000 f1), (xo, aI g 75100 f2), (xp, aI g 25 f3), (xh, aZ g 25 f4), (h0, ob 8 [.ref xa, .ref xb, .ref xc, .ref xd, .ref xe, .ref xf, .ref xg, .int (iI vc), .int (iI vk), .int (iI vw), .ref xm, .ref xv, .int (iI vg), .ref xw, .int (iI vb), .int (iI vi), .ref xq, .int (iI ve), .int (iI vf), .int (iI vu), .int (iI vl), .ref xr, .ref xh, .ref xo, .ref xp, .int (iI vr), .int (iI (p + 1)), .int (iI vt), .int (iI vm), .int (iI pd), .int (iI px)]), (xw, aI g 72000 f), (xq, aI g 2000 fq)] inX8 tyX8_ok nmX8 k1022 dX8_readMarked_57 rfl rfl (by decide) rfl rfl rfl rfl (nl rfl) rfl rfl ?_
                refine v_aload_n fx 1 dX8_readMarked_60 rfl rfl ?_
                refine v_iload_n fx 2 dX8_readMarked_61 rfl rfl ?_
                refine v_aload_n fx 1 dX8_readMarked_62 rfl rfl ?_
                refine v_get fx 6 8 inX8 k1004 dX8_readMarked_63 rfl rfl (by decide) rfl rfl rfl ?_
                refine v_if_eq fx 78 dX8_readMarked_66 (by decide) rfl (by omega) (fun h_60 => ?_) (fun h_60 => ?_)
                ·
                  refine v_iconst fx dX8_readMarked_78 rfl ?_
                  refine v_goto fx 83 dX8_readMarked_79 (by decide) ?_
                  refine v_callV (As := [.int (iI n), .int (iI 1)]) (rest := []) fx [6, 7, 8, 0, 1, 2, 3, 4, 5] [] [(h0, ob 8 [.ref xa, .ref xb, .ref xc, .ref xd, .ref xe, .ref xf, .ref xg, .int (iI vc), .int (iI vk), .int (iI vw), .ref xm, .ref xv, .int (iI vg), .ref xw, .int (iI vb), .int (iI vi), .ref xq, .int (iI ve), .int (iI vf), .int (iI vu), .int (iI vl), .ref xr, .ref xh, .ref xo, .ref xp, .int (iI vr), .int (iI (p + 1)), .int (iI vt), .int (iI vm), .int (iI pd), .int (iI px)]), (xw, aI g 72000 f), (xq, aI g 2000 fq), (xf, aI g 16384 fw), (xg, aI g 16384 fb), (xr, aZ g 75000 f1), (xo, aI g 75100 f2), (xp, aI g 25 f3), (xh, aZ g 25 f4)] [] 2 0 (c_X8_readRow l g h0 xa xb xc xd xe xf xg xm xv xw xq xr xh xo xp vc vk vw vg vb vi ve vf vu vl vr (p + 1) vt vm pd px f fq fw fb f1 f2 f3 f4 n 1 (by first | omega | decide | assumption) (by first | omega | decide | assumption) (by first | omega | decide | assumption) (by first | omega | decide | assumption) (by first | omega | decide | assumption) (by first | omega | decide | assumption) (by first | omega | decide | assumption) (by first | omega | decide | assumption) (by first | omega | decide | assumption) (by first | omega | decide | assumption) (by first | omega | decide | assumption) (by first | omega | decide | assumption) (by first | omega | decide | assumption)) dX8_readMarked_83 k1170 k1172 k35 k57 k1173 ykX8_readRow rfl rfl rfl rfl rfl rfl rfl rfl (nl rfl) ⟨nl rfl, nl rfl⟩ ⟨(nl rfl), (nl rfl)⟩ rfl (fun v9 w9 hu => ?_)
                  obtain ⟨a2_61, d2_62, x2_63, g2_64, g3_65, g4_66, g5_67, rfl, rfl, u_68, u_69, u_70, u_71⟩ := hu
                  refine v_is (wn := [(h0, ob 8 [.ref xa, .ref xb, .ref xc, .ref xd, .ref xe, .ref xf, .ref xg, .int (iI vc), .int (iI vk), .int (iI vw), .ref xm, .ref xv, .int (iI vg), .ref xw, .int (iI vb), .int (iI vi), .ref xq, .int (iI ve), .int (iI vf), .int (iI vu), .int (iI vl), .ref xr, .ref xh, .ref xo, .ref xp, .int (iI vr), .int (iI a2_61), .int (iI vt), .int (iI vm), .int (iI d2_62), .int (iI x2_63)]), (xw, aI g 72000 f), (xq, aI g 2000 fq), (xf, aI g 16384 fw), (xg, aI g 16384 fb), (xr, aZ g 75000 g2_64), (xo, aI g 75100 g3_65), (xp, aI g 25 g4_66), (xh, aZ g 25 g5_67)]) (cn := 0) (sn := 0) (sn2 := []) rfl rfl rfl rfl ?_
                  refine v_aload_n fx 1 dX8_readMarked_86 rfl rfl ?_
                  refine v_get fx 0 30 inX8 k1026 dX8_readMarked_87 rfl rfl (by decide) rfl rfl rfl ?_
                  refine v_if_eq fx 96 dX8_readMarked_90 (by decide) rfl (by omega) (fun h_72 => ?_) (fun h_72 => ?_)
                  ·
                    refine v_iinc fx 2 (n + 1) [(1, .int (iI (n + 1))), (3, .int (iI (p + 1))), (0, .ref h0), (2, .int (iI p))] dX8_readMarked_96 rfl (by omega) (by decide) rfl rfl ?_
                    refine v_aload_n fx 2 dX8_readMarked_99 rfl rfl ?_
                    refine v_aload_n fx 2 dX8_readMarked_100 rfl rfl ?_
                    refine v_get fx 0 26 inX8 k1022 dX8_readMarked_101 rfl rfl (by decide) rfl rfl rfl ?_
                    refine v_callV (As := [.int (iI a2_61)]) (rest := []) fx [0, 1, 2] [3, 4, 5, 6, 7, 8] [(h0, ob 8 [.ref xa, .ref xb, .ref xc, .ref xd, .ref xe, .ref xf, .ref xg, .int (iI vc), .int (iI vk), .int (iI vw), .ref xm, .ref xv, .int (iI vg), .ref xw, .int (iI vb), .int (iI vi), .ref xq, .int (iI ve), .int (iI vf), .int (iI vu), .int (iI vl), .ref xr, .ref xh, .ref xo, .ref xp, .int (iI vr), .int (iI a2_61), .int (iI vt), .int (iI vm), .int (iI d2_62), .int (iI x2_63)]), (xw, aI g 72000 f), (xq, aI g 2000 fq)] [(xf, aI g 16384 fw), (xg, aI g 16384 fb), (xr, aZ g 75000 g2_64), (xo, aI g 75100 g3_65), (xp, aI g 25 g4_66), (xh, aZ g 25 g5_67)] 1 0 (c_X8_findMark l g h0 xa xb xc xd xe xf xg xm xv xw xq xr xh xo xp vc vk vw vg vb vi ve vf vu vl vr a2_61 vt vm d2_62 x2_63 f fq a2_61 (by first | omega | decide | assumption) (by first | omega | decide | assumption) (by first | omega | decide | assumption) (by first | omega | decide | assumption) (by first | omega | decide | assumption)) dX8_readMarked_104 k1202 k1204 k43 k57 k1205 ykX8_findMark rfl rfl rfl rfl rfl rfl rfl rfl (nl rfl) ⟨nl rfl, nl rfl⟩ ⟨(nl rfl), (nl rfl)⟩ rfl (fun v9 w9 hu => ?_)
                    obtain ⟨r_73, rfl, rfl, u_74⟩ := hu
                    refine v_is (wn := [(xf, aI g 16384 fw), (xg, aI g 16384 fb), (xr, aZ g 75000 g2_64), (xo, aI g 75100 g3_65), (xp, aI g 25 g4_66), (xh, aZ g 25 g5_67), (h0, ob 8 [.ref xa, .ref xb, .ref xc, .ref xd, .ref xe, .ref xf, .ref xg, .int (iI vc), .int (iI vk), .int (iI vw), .ref xm, .ref xv, .int (iI vg), .ref xw, .int (iI vb), .int (iI vi), .ref xq, .int (iI ve), .int (iI vf), .int (iI vu), .int (iI vl), .ref xr, .ref xh, .ref xo, .ref xp, .int (iI vr), .int (iI a2_61), .int (iI vt), .int (iI vm), .int (iI d2_62), .int (iI x2_63)]), (xw, aI g 72000 f), (xq, aI g 2000 fq)]) (cn := 0) (sn := 0) (sn2 := [.int (iI r_73)]) rfl rfl rfl rfl ?_
                    refine v_istore_n fx [(2, .int (iI r_73)), (1, .int (iI (n + 1))), (3, .int (iI (p + 1))), (0, .ref h0)] dX8_readMarked_107 (by decide) rfl rfl ?_
                    refine v_goto fx 8 dX8_readMarked_108 (by decide) ?_
                    refine v_ws [6, 7, 8, 0, 1, 2, 3, 4, 5] [(h0, ob 8 [.ref xa, .ref xb, .ref xc, .ref xd, .ref xe, .ref xf, .ref xg, .int (iI vc), .int (iI vk), .int (iI vw), .ref xm, .ref xv, .int (iI vg), .ref xw, .int (iI vb), .int (iI vi), .ref xq, .int (iI ve), .int (iI vf), .int (iI vu), .int (iI vl), .ref xr, .ref xh, .ref xo, .ref xp, .int (iI vr), .int (iI a2_61), .int (iI vt), .int (iI vm), .int (iI d2_62), .int (iI x2_63)]), (xw, aI g 72000 f), (xq, aI g 2000 fq), (xf, aI g 16384 fw), (xg, aI g 16384 fb), (xr, aZ g 75000 g2_64), (xo, aI g 75100 g3_65), (xp, aI g 25 g4_66), (xh, aZ g 25 g5_67)] rfl rfl ?_
                    refine v_lv [3, 1, 0] [(0, .ref h0), (1, .int (iI (n + 1))), (2, .int (iI r_73))] rfl ?_
                    exact ihL8 (n + 1) r_73 a2_61 d2_62 x2_63 g2_64 g3_65 g4_66 g5_67 (by omega) (by omega) (by omega) (by assumption) (by omega)
                  ·
                    refine v_bipush fx dX8_readMarked_93 (by decide +kernel) rfl ?_
                    exact v_iret fx [(h0, ob 8 [.ref xa, .ref xb, .ref xc, .ref xd, .ref xe, .ref xf, .ref xg, .int (iI vc), .int (iI vk), .int (iI vw), .ref xm, .ref xv, .int (iI vg), .ref xw, .int (iI vb), .int (iI vi), .ref xq, .int (iI ve), .int (iI vf), .int (iI vu), .int (iI vl), .ref xr, .ref xh, .ref xo, .ref xp, .int (iI vr), .int (iI a2_61), .int (iI vt), .int (iI vm), .int (iI d2_62), .int (iI x2_63)]), (xw, aI g 72000 f), (xq, aI g 2000 fq), (xf, aI g 16384 fw), (xg, aI g 16384 fb), (xr, aZ g 75000 g2_64), (xo, aI g 75100 g3_65), (xp, aI g 25 g4_66), (xh, aZ g 25 g5_67)] [0, 1, 2, 3, 4, 5, 6, 7, 8] hr dX8_readMarked_95 rfl rfl (nl rfl) (nl rfl) ⟨(-2), a2_61, d2_62, x2_63, g2_64, g3_65, g4_66, g5_67, rfl, rfl, (by first | omega | rfl | assumption), (by assumption)⟩
                ·
                  refine v_aload_n fx 1 dX8_readMarked_69 rfl rfl ?_
                  refine v_iload_n fx 3 dX8_readMarked_70 rfl rfl ?_
                  refine v_callV (As := [.int (iI p)]) (rest := [.int (iI n), .ref h0]) fx [6, 7, 8] [0, 1, 2, 3, 4, 5] [(h0, ob 8 [.ref xa, .ref xb, .ref xc, .ref xd, .ref xe, .ref xf, .ref xg, .int (iI vc), .int (iI vk), .int (iI vw), .ref xm, .ref xv, .int (iI vg), .ref xw, .int (iI vb), .int (iI vi), .ref xq, .int (iI ve), .int (iI vf), .int (iI vu), .int (iI vl), .ref xr, .ref xh, .ref xo, .ref xp, .int (iI vr), .int (iI (p + 1)), .int (iI vt), .int (iI vm), .int (iI pd), .int (iI px)]), (xw, aI g 72000 f), (xq, aI g 2000 fq)] [(xf, aI g 16384 fw), (xg, aI g 16384 fb), (xr, aZ g 75000 f1), (xo, aI g 75100 f2), (xp, aI g 25 f3), (xh, aZ g 25 f4)] 1 0 (c_X8_bitAt l g h0 xa xb xc xd xe xf xg xm xv xw xq xr xh xo xp vc vk vw vg vb vi ve vf vu vl vr (p + 1) vt vm pd px f fq p (by first | omega | decide | assumption) (by first | omega | decide | assumption) (by first | omega | decide | assumption) (by first | omega | decide | assumption) (by first | omega | decide | assumption)) dX8_readMarked_71 k1166 k1168 k34 k57 k1169 ykX8_bitAt rfl rfl rfl rfl rfl rfl rfl rfl (nl rfl) ⟨nl rfl, nl rfl⟩ ⟨(nl rfl), (nl rfl)⟩ rfl (fun v9 w9 hu => ?_)
                  obtain ⟨bt, rfl, rfl, u_75⟩ := hu
                  refine v_is (wn := [(xf, aI g 16384 fw), (xg, aI g 16384 fb), (xr, aZ g 75000 f1), (xo, aI g 75100 f2), (xp, aI g 25 f3), (xh, aZ g 25 f4), (h0, ob 8 [.ref xa, .ref xb, .ref xc, .ref xd, .ref xe, .ref xf, .ref xg, .int (iI vc), .int (iI vk), .int (iI vw), .ref xm, .ref xv, .int (iI vg), .ref xw, .int (iI vb), .int (iI vi), .ref xq, .int (iI ve), .int (iI vf), .int (iI vu), .int (iI vl), .ref xr, .ref xh, .ref xo, .ref xp, .int (iI vr), .int (iI (p + 1)), .int (iI vt), .int (iI vm), .int (iI pd), .int (iI px)]), (xw, aI g 72000 f), (xq, aI g 2000 fq)]) (cn := 0) (sn := 0) (sn2 := [.int (iI bt), .int (iI n), .ref h0]) rfl rfl rfl rfl ?_
                  refine v_iconst fx dX8_readMarked_74 rfl ?_
                  refine v_icmp_ne fx 82 dX8_readMarked_75 (by decide) rfl (by omega) (by omega) (fun h_76 => ?_) (fun h_76 => ?_)
                  ·
                    refine v_iconst fx dX8_readMarked_82 rfl ?_
                    refine v_callV (As := [.int (iI n), .int (iI 0)]) (rest := []) fx [6, 7, 8, 0, 1, 2, 3, 4, 5] [] [(h0, ob 8 [.ref xa, .ref xb, .ref xc, .ref xd, .ref xe, .ref xf, .ref xg, .int (iI vc), .int (iI vk), .int (iI vw), .ref xm, .ref xv, .int (iI vg), .ref xw, .int (iI vb), .int (iI vi), .ref xq, .int (iI ve), .int (iI vf), .int (iI vu), .int (iI vl), .ref xr, .ref xh, .ref xo, .ref xp, .int (iI vr), .int (iI (p + 1)), .int (iI vt), .int (iI vm), .int (iI pd), .int (iI px)]), (xw, aI g 72000 f), (xq, aI g 2000 fq), (xf, aI g 16384 fw), (xg, aI g 16384 fb), (xr, aZ g 75000 f1), (xo, aI g 75100 f2), (xp, aI g 25 f3), (xh, aZ g 25 f4)] [] 2 0 (c_X8_readRow l g h0 xa xb xc xd xe xf xg xm xv xw xq xr xh xo xp vc vk vw vg vb vi ve vf vu vl vr (p + 1) vt vm pd px f fq fw fb f1 f2 f3 f4 n 0 (by first | omega | decide | assumption) (by first | omega | decide | assumption) (by first | omega | decide | assumption) (by first | omega | decide | assumption) (by first | omega | decide | assumption) (by first | omega | decide | assumption) (by first | omega | decide | assumption) (by first | omega | decide | assumption) (by first | omega | decide | assumption) (by first | omega | decide | assumption) (by first | omega | decide | assumption) (by first | omega | decide | assumption) (by first | omega | decide | assumption)) dX8_readMarked_83 k1170 k1172 k35 k57 k1173 ykX8_readRow rfl rfl rfl rfl rfl rfl rfl rfl (nl rfl) ⟨nl rfl, nl rfl⟩ ⟨(nl rfl), (nl rfl)⟩ rfl (fun v9 w9 hu => ?_)
                    obtain ⟨a2_77, d2_78, x2_79, g2_80, g3_81, g4_82, g5_83, rfl, rfl, u_84, u_85, u_86, u_87⟩ := hu
                    refine v_is (wn := [(h0, ob 8 [.ref xa, .ref xb, .ref xc, .ref xd, .ref xe, .ref xf, .ref xg, .int (iI vc), .int (iI vk), .int (iI vw), .ref xm, .ref xv, .int (iI vg), .ref xw, .int (iI vb), .int (iI vi), .ref xq, .int (iI ve), .int (iI vf), .int (iI vu), .int (iI vl), .ref xr, .ref xh, .ref xo, .ref xp, .int (iI vr), .int (iI a2_77), .int (iI vt), .int (iI vm), .int (iI d2_78), .int (iI x2_79)]), (xw, aI g 72000 f), (xq, aI g 2000 fq), (xf, aI g 16384 fw), (xg, aI g 16384 fb), (xr, aZ g 75000 g2_80), (xo, aI g 75100 g3_81), (xp, aI g 25 g4_82), (xh, aZ g 25 g5_83)]) (cn := 0) (sn := 0) (sn2 := []) rfl rfl rfl rfl ?_
                    refine v_aload_n fx 1 dX8_readMarked_86 rfl rfl ?_
                    refine v_get fx 0 30 inX8 k1026 dX8_readMarked_87 rfl rfl (by decide) rfl rfl rfl ?_
                    refine v_if_eq fx 96 dX8_readMarked_90 (by decide) rfl (by omega) (fun h_88 => ?_) (fun h_88 => ?_)
                    ·
                      refine v_iinc fx 2 (n + 1) [(1, .int (iI (n + 1))), (3, .int (iI (p + 1))), (0, .ref h0), (2, .int (iI p))] dX8_readMarked_96 rfl (by omega) (by decide) rfl rfl ?_
                      refine v_aload_n fx 2 dX8_readMarked_99 rfl rfl ?_
                      refine v_aload_n fx 2 dX8_readMarked_100 rfl rfl ?_
                      refine v_get fx 0 26 inX8 k1022 dX8_readMarked_101 rfl rfl (by decide) rfl rfl rfl ?_
                      refine v_callV (As := [.int (iI a2_77)]) (rest := []) fx [0, 1, 2] [3, 4, 5, 6, 7, 8] [(h0, ob 8 [.ref xa, .ref xb, .ref xc, .ref xd, .ref xe, .ref xf, .ref xg, .int (iI vc), .int (iI vk), .int (iI vw), .ref xm, .ref xv, .int (iI vg), .ref xw, .int (iI vb), .int (iI vi), .ref xq, .int (iI ve), .int (iI vf), .int (iI vu), .int (iI vl), .ref xr, .ref xh, .ref xo, .ref xp, .int (iI vr), .int (iI a2_77), .int (iI vt), .int (iI vm), .int (iI d2_78), .int (iI x2_79)]), (xw, aI g 72000 f), (xq, aI g 2000 fq)] [(xf, aI g 16384 fw), (xg, aI g 16384 fb), (xr, aZ g 75000 g2_80), (xo, aI g 75100 g3_81), (xp, aI g 25 g4_82), (xh, aZ g 25 g5_83)] 1 0 (c_X8_findMark l g h0 xa xb xc xd xe xf xg xm xv xw xq xr xh xo xp vc vk vw vg vb vi ve vf vu vl vr a2_77 vt vm d2_78 x2_79 f fq a2_77 (by first | omega | decide | assumption) (by first | omega | decide | assumption) (by first | omega | decide | assumption) (by first | omega | decide | assumption) (by first | omega | decide | assumption)) dX8_readMarked_104 k1202 k1204 k43 k57 k1205 ykX8_findMark rfl rfl rfl rfl rfl rfl rfl rfl (nl rfl) ⟨nl rfl, nl rfl⟩ ⟨(nl rfl), (nl rfl)⟩ rfl (fun v9 w9 hu => ?_)
                      obtain ⟨r_89, rfl, rfl, u_90⟩ := hu
                      refine v_is (wn := [(xf, aI g 16384 fw), (xg, aI g 16384 fb), (xr, aZ g 75000 g2_80), (xo, aI g 75100 g3_81), (xp, aI g 25 g4_82), (xh, aZ g 25 g5_83), (h0, ob 8 [.ref xa, .ref xb, .ref xc, .ref xd, .ref xe, .ref xf, .ref xg, .int (iI vc), .int (iI vk), .int (iI vw), .ref xm, .ref xv, .int (iI vg), .ref xw, .int (iI vb), .int (iI vi), .ref xq, .int (iI ve), .int (iI vf), .int (iI vu), .int (iI vl), .ref xr, .ref xh, .ref xo, .ref xp, .int (iI vr), .int (iI a2_77), .int (iI vt), .int (iI vm), .int (iI d2_78), .int (iI x2_79)]), (xw, aI g 72000 f), (xq, aI g 2000 fq)]) (cn := 0) (sn := 0) (sn2 := [.int (iI r_89)]) rfl rfl rfl rfl ?_
                      refine v_istore_n fx [(2, .int (iI r_89)), (1, .int (iI (n + 1))), (3, .int (iI (p + 1))), (0, .ref h0)] dX8_readMarked_107 (by decide) rfl rfl ?_
                      refine v_goto fx 8 dX8_readMarked_108 (by decide) ?_
                      refine v_ws [6, 7, 8, 0, 1, 2, 3, 4, 5] [(h0, ob 8 [.ref xa, .ref xb, .ref xc, .ref xd, .ref xe, .ref xf, .ref xg, .int (iI vc), .int (iI vk), .int (iI vw), .ref xm, .ref xv, .int (iI vg), .ref xw, .int (iI vb), .int (iI vi), .ref xq, .int (iI ve), .int (iI vf), .int (iI vu), .int (iI vl), .ref xr, .ref xh, .ref xo, .ref xp, .int (iI vr), .int (iI a2_77), .int (iI vt), .int (iI vm), .int (iI d2_78), .int (iI x2_79)]), (xw, aI g 72000 f), (xq, aI g 2000 fq), (xf, aI g 16384 fw), (xg, aI g 16384 fb), (xr, aZ g 75000 g2_80), (xo, aI g 75100 g3_81), (xp, aI g 25 g4_82), (xh, aZ g 25 g5_83)] rfl rfl ?_
                      refine v_lv [3, 1, 0] [(0, .ref h0), (1, .int (iI (n + 1))), (2, .int (iI r_89))] rfl ?_
                      exact ihL8 (n + 1) r_89 a2_77 d2_78 x2_79 g2_80 g3_81 g4_82 g5_83 (by omega) (by omega) (by omega) (by assumption) (by omega)
                    ·
                      refine v_bipush fx dX8_readMarked_93 (by decide +kernel) rfl ?_
                      exact v_iret fx [(h0, ob 8 [.ref xa, .ref xb, .ref xc, .ref xd, .ref xe, .ref xf, .ref xg, .int (iI vc), .int (iI vk), .int (iI vw), .ref xm, .ref xv, .int (iI vg), .ref xw, .int (iI vb), .int (iI vi), .ref xq, .int (iI ve), .int (iI vf), .int (iI vu), .int (iI vl), .ref xr, .ref xh, .ref xo, .ref xp, .int (iI vr), .int (iI a2_77), .int (iI vt), .int (iI vm), .int (iI d2_78), .int (iI x2_79)]), (xw, aI g 72000 f), (xq, aI g 2000 fq), (xf, aI g 16384 fw), (xg, aI g 16384 fb), (xr, aZ g 75000 g2_80), (xo, aI g 75100 g3_81), (xp, aI g 25 g4_82), (xh, aZ g 25 g5_83)] [0, 1, 2, 3, 4, 5, 6, 7, 8] hr dX8_readMarked_95 rfl rfl (nl rfl) (nl rfl) ⟨(-2), a2_77, d2_78, x2_79, g2_80, g3_81, g4_82, g5_83, rfl, rfl, (by first | omega | rfl | assumption), (by assumption)⟩
                  ·
                    refine v_iconst fx dX8_readMarked_78 rfl ?_
                    refine v_goto fx 83 dX8_readMarked_79 (by decide) ?_
                    refine v_callV (As := [.int (iI n), .int (iI 1)]) (rest := []) fx [6, 7, 8, 0, 1, 2, 3, 4, 5] [] [(h0, ob 8 [.ref xa, .ref xb, .ref xc, .ref xd, .ref xe, .ref xf, .ref xg, .int (iI vc), .int (iI vk), .int (iI vw), .ref xm, .ref xv, .int (iI vg), .ref xw, .int (iI vb), .int (iI vi), .ref xq, .int (iI ve), .int (iI vf), .int (iI vu), .int (iI vl), .ref xr, .ref xh, .ref xo, .ref xp, .int (iI vr), .int (iI (p + 1)), .int (iI vt), .int (iI vm), .int (iI pd), .int (iI px)]), (xw, aI g 72000 f), (xq, aI g 2000 fq), (xf, aI g 16384 fw), (xg, aI g 16384 fb), (xr, aZ g 75000 f1), (xo, aI g 75100 f2), (xp, aI g 25 f3), (xh, aZ g 25 f4)] [] 2 0 (c_X8_readRow l g h0 xa xb xc xd xe xf xg xm xv xw xq xr xh xo xp vc vk vw vg vb vi ve vf vu vl vr (p + 1) vt vm pd px f fq fw fb f1 f2 f3 f4 n 1 (by first | omega | decide | assumption) (by first | omega | decide | assumption) (by first | omega | decide | assumption) (by first | omega | decide | assumption) (by first | omega | decide | assumption) (by first | omega | decide | assumption) (by first | omega | decide | assumption) (by first | omega | decide | assumption) (by first | omega | decide | assumption) (by first | omega | decide | assumption) (by first | omega | decide | assumption) (by first | omega | decide | assumption) (by first | omega | decide | assumption)) dX8_readMarked_83 k1170 k1172 k35 k57 k1173 ykX8_readRow rfl rfl rfl rfl rfl rfl rfl rfl (nl rfl) ⟨nl rfl, nl rfl⟩ ⟨(nl rfl), (nl rfl)⟩ rfl (fun v9 w9 hu => ?_)
                    obtain ⟨a2_91, d2_92, x2_93, g2_94, g3_95, g4_96, g5_97, rfl, rfl, u_98, u_99, u_100, u_101⟩ := hu
                    refine v_is (wn := [(h0, ob 8 [.ref xa, .ref xb, .ref xc, .ref xd, .ref xe, .ref xf, .ref xg, .int (iI vc), .int (iI vk), .int (iI vw), .ref xm, .ref xv, .int (iI vg), .ref xw, .int (iI vb), .int (iI vi), .ref xq, .int (iI ve), .int (iI vf), .int (iI vu), .int (iI vl), .ref xr, .ref xh, .ref xo, .ref xp, .int (iI vr), .int (iI a2_91), .int (iI vt), .int (iI vm), .int (iI d2_92), .int (iI x2_93)]), (xw, aI g 72000 f), (xq, aI g 2000 fq), (xf, aI g 16384 fw), (xg, aI g 16384 fb), (xr, aZ g 75000 g2_94), (xo, aI g 75100 g3_95), (xp, aI g 25 g4_96), (xh, aZ g 25 g5_97)]) (cn := 0) (sn := 0) (sn2 := []) rfl rfl rfl rfl ?_
                    refine v_aload_n fx 1 dX8_readMarked_86 rfl rfl ?_
                    refine v_get fx 0 30 inX8 k1026 dX8_readMarked_87 rfl rfl (by decide) rfl rfl rfl ?_
                    refine v_if_eq fx 96 dX8_readMarked_90 (by decide) rfl (by omega) (fun h_102 => ?_) (fun h_102 => ?_)
                    ·
                      refine v_iinc fx 2 (n + 1) [(1, .int (iI (n + 1))), (3, .int (iI (p + 1))), (0, .ref h0), (2, .int (iI p))] dX8_readMarked_96 rfl (by omega) (by decide) rfl rfl ?_
                      refine v_aload_n fx 2 dX8_readMarked_99 rfl rfl ?_
                      refine v_aload_n fx 2 dX8_readMarked_100 rfl rfl ?_
                      refine v_get fx 0 26 inX8 k1022 dX8_readMarked_101 rfl rfl (by decide) rfl rfl rfl ?_
                      refine v_callV (As := [.int (iI a2_91)]) (rest := []) fx [0, 1, 2] [3, 4, 5, 6, 7, 8] [(h0, ob 8 [.ref xa, .ref xb, .ref xc, .ref xd, .ref xe, .ref xf, .ref xg, .int (iI vc), .int (iI vk), .int (iI vw), .ref xm, .ref xv, .int (iI vg), .ref xw, .int (iI vb), .int (iI vi), .ref xq, .int (iI ve), .int (iI vf), .int (iI vu), .int (iI vl), .ref xr, .ref xh, .ref xo, .ref xp, .int (iI vr), .int (iI a2_91), .int (iI vt), .int (iI vm), .int (iI d2_92), .int (iI x2_93)]), (xw, aI g 72000 f), (xq, aI g 2000 fq)] [(xf, aI g 16384 fw), (xg, aI g 16384 fb), (xr, aZ g 75000 g2_94), (xo, aI g 75100 g3_95), (xp, aI g 25 g4_96), (xh, aZ g 25 g5_97)] 1 0 (c_X8_findMark l g h0 xa xb xc xd xe xf xg xm xv xw xq xr xh xo xp vc vk vw vg vb vi ve vf vu vl vr a2_91 vt vm d2_92 x2_93 f fq a2_91 (by first | omega | decide | assumption) (by first | omega | decide | assumption) (by first | omega | decide | assumption) (by first | omega | decide | assumption) (by first | omega | decide | assumption)) dX8_readMarked_104 k1202 k1204 k43 k57 k1205 ykX8_findMark rfl rfl rfl rfl rfl rfl rfl rfl (nl rfl) ⟨nl rfl, nl rfl⟩ ⟨(nl rfl), (nl rfl)⟩ rfl (fun v9 w9 hu => ?_)
                      obtain ⟨r_103, rfl, rfl, u_104⟩ := hu
                      refine v_is (wn := [(xf, aI g 16384 fw), (xg, aI g 16384 fb), (xr, aZ g 75000 g2_94), (xo, aI g 75100 g3_95), (xp, aI g 25 g4_96), (xh, aZ g 25 g5_97), (h0, ob 8 [.ref xa, .ref xb, .ref xc, .ref xd, .ref xe, .ref xf, .ref xg, .int (iI vc), .int (iI vk), .int (iI vw), .ref xm, .ref xv, .int (iI vg), .ref xw, .int (iI vb), .int (iI vi), .ref xq, .int (iI ve), .int (iI vf), .int (iI vu), .int (iI vl), .ref xr, .ref xh, .ref xo, .ref xp, .int (iI vr), .int (iI a2_91), .int (iI vt), .int (iI vm), .int (iI d2_92), .int (iI x2_93)]), (xw, aI g 72000 f), (xq, aI g 2000 fq)]) (cn := 0) (sn := 0) (sn2 := [.int (iI r_103)]) rfl rfl rfl rfl ?_
                      refine v_istore_n fx [(2, .int (iI r_103)), (1, .int (iI (n + 1))), (3, .int (iI (p + 1))), (0, .ref h0)] dX8_readMarked_107 (by decide) rfl rfl ?_
                      refine v_goto fx 8 dX8_readMarked_108 (by decide) ?_
                      refine v_ws [6, 7, 8, 0, 1, 2, 3, 4, 5] [(h0, ob 8 [.ref xa, .ref xb, .ref xc, .ref xd, .ref xe, .ref xf, .ref xg, .int (iI vc), .int (iI vk), .int (iI vw), .ref xm, .ref xv, .int (iI vg), .ref xw, .int (iI vb), .int (iI vi), .ref xq, .int (iI ve), .int (iI vf), .int (iI vu), .int (iI vl), .ref xr, .ref xh, .ref xo, .ref xp, .int (iI vr), .int (iI a2_91), .int (iI vt), .int (iI vm), .int (iI d2_92), .int (iI x2_93)]), (xw, aI g 72000 f), (xq, aI g 2000 fq), (xf, aI g 16384 fw), (xg, aI g 16384 fb), (xr, aZ g 75000 g2_94), (xo, aI g 75100 g3_95), (xp, aI g 25 g4_96), (xh, aZ g 25 g5_97)] rfl rfl ?_
                      refine v_lv [3, 1, 0] [(0, .ref h0), (1, .int (iI (n + 1))), (2, .int (iI r_103))] rfl ?_
                      exact ihL8 (n + 1) r_103 a2_91 d2_92 x2_93 g2_94 g3_95 g4_96 g5_97 (by omega) (by omega) (by omega) (by assumption) (by omega)
                    ·
                      refine v_bipush fx dX8_readMarked_93 (by decide +kernel) rfl ?_
                      exact v_iret fx [(h0, ob 8 [.ref xa, .ref xb, .ref xc, .ref xd, .ref xe, .ref xf, .ref xg, .int (iI vc), .int (iI vk), .int (iI vw), .ref xm, .ref xv, .int (iI vg), .ref xw, .int (iI vb), .int (iI vi), .ref xq, .int (iI ve), .int (iI vf), .int (iI vu), .int (iI vl), .ref xr, .ref xh, .ref xo, .ref xp, .int (iI vr), .int (iI a2_91), .int (iI vt), .int (iI vm), .int (iI d2_92), .int (iI x2_93)]), (xw, aI g 72000 f), (xq, aI g 2000 fq), (xf, aI g 16384 fw), (xg, aI g 16384 fb), (xr, aZ g 75000 g2_94), (xo, aI g 75100 g3_95), (xp, aI g 25 g4_96), (xh, aZ g 25 g5_97)] [0, 1, 2, 3, 4, 5, 6, 7, 8] hr dX8_readMarked_95 rfl rfl (nl rfl) (nl rfl) ⟨(-2), a2_91, d2_92, x2_93, g2_94, g3_95, g4_96, g5_97, rfl, rfl, (by first | omega | rfl | assumption), (by assumption)⟩
              ·
                refine v_bipush fx dX8_readMarked_52 (by decide +kernel) rfl ?_
                exact v_iret fx [(h0, ob 8 [.ref xa, .ref xb, .ref xc, .ref xd, .ref xe, .ref xf, .ref xg, .int (iI vc), .int (iI vk), .int (iI vw), .ref xm, .ref xv, .int (iI vg), .ref xw, .int (iI vb), .int (iI vi), .ref xq, .int (iI ve), .int (iI vf), .int (iI vu), .int (iI vl), .ref xr, .ref xh, .ref xo, .ref xp, .int (iI vr), .int (iI pa), .int (iI vt), .int (iI vm), .int (iI pd), .int (iI px)]), (xw, aI g 72000 f), (xq, aI g 2000 fq), (xf, aI g 16384 fw), (xg, aI g 16384 fb), (xr, aZ g 75000 f1), (xo, aI g 75100 f2), (xp, aI g 25 f3), (xh, aZ g 25 f4)] [6, 7, 8, 0, 1, 2, 3, 4, 5] hr dX8_readMarked_54 rfl rfl (nl rfl) (nl rfl) ⟨(-3), pa, pd, px, f1, f2, f3, f4, rfl, rfl, (by first | omega | rfl | assumption), (by exact hi8_3)⟩
            ·
              refine v_iload_n fx 2 dX8_readMarked_44 rfl rfl ?_
              exact v_iret fx [(h0, ob 8 [.ref xa, .ref xb, .ref xc, .ref xd, .ref xe, .ref xf, .ref xg, .int (iI vc), .int (iI vk), .int (iI vw), .ref xm, .ref xv, .int (iI vg), .ref xw, .int (iI vb), .int (iI vi), .ref xq, .int (iI ve), .int (iI vf), .int (iI vu), .int (iI vl), .ref xr, .ref xh, .ref xo, .ref xp, .int (iI vr), .int (iI pa), .int (iI vt), .int (iI vm), .int (iI pd), .int (iI px)]), (xw, aI g 72000 f), (xq, aI g 2000 fq), (xf, aI g 16384 fw), (xg, aI g 16384 fb), (xr, aZ g 75000 f1), (xo, aI g 75100 f2), (xp, aI g 25 f3), (xh, aZ g 25 f4)] [6, 7, 8, 0, 1, 2, 3, 4, 5] hr dX8_readMarked_45 rfl rfl (nl rfl) (nl rfl) ⟨n, pa, pd, px, f1, f2, f3, f4, rfl, rfl, (by first | omega | rfl | assumption), (by exact hi8_3)⟩
  refine v_ws [6, 7, 8, 0, 1, 2, 3, 4, 5] [(h0, ob 8 [.ref xa, .ref xb, .ref xc, .ref xd, .ref xe, .ref xf, .ref xg, .int (iI vc), .int (iI vk), .int (iI vw), .ref xm, .ref xv, .int (iI vg), .ref xw, .int (iI vb), .int (iI vi), .ref xq, .int (iI ve), .int (iI vf), .int (iI vu), .int (iI vl), .ref xr, .ref xh, .ref xo, .ref xp, .int (iI vr), .int (iI va), .int (iI vt), .int (iI vm), .int (iI vd), .int (iI vx)]), (xw, aI g 72000 f), (xq, aI g 2000 fq), (xf, aI g 16384 fw), (xg, aI g 16384 fb), (xr, aZ g 75000 fr), (xo, aI g 75100 fm), (xp, aI g 25 fc), (xh, aZ g 25 fh)] rfl rfl ?_
  refine v_lv [2, 1, 0] [(0, .ref h0), (1, .int (iI 0)), (2, .int (iI r_1))] rfl ?_
  exact L8 _ 0 r_1 va vd vx fr fm fc fh (by omega) (by omega) (by omega) (by exact hp7) (Nat.lt_succ_self _)
theorem dX8_isEnd_0 : decode cX8_isEnd 0 = .ok (.iconst 0, 1) := by decide +kernel
theorem dX8_isEnd_1 : decode cX8_isEnd 1 = .ok (.istore_n 1, 1) := by decide +kernel
theorem dX8_isEnd_2 : decode cX8_isEnd 2 = .ok (.iconst 0, 1) := by decide +kernel
theorem dX8_isEnd_3 : decode cX8_isEnd 3 = .ok (.istore_n 2, 1) := by decide +kernel
theorem dX8_isEnd_4 : decode cX8_isEnd 4 = .ok (.iload_n 2, 1) := by decide +kernel
theorem dX8_isEnd_5 : decode cX8_isEnd 5 = .ok (.bipush 24, 2) := by decide +kernel
theorem dX8_isEnd_7 : decode cX8_isEnd 7 = .ok (.if_icmp .ge 41, 3) := by decide +kernel
theorem dX8_isEnd_10 : decode cX8_isEnd 10 = .ok (.iconst 2, 1) := by decide +kernel
theorem dX8_isEnd_11 : decode cX8_isEnd 11 = .ok (.iload_n 1, 1) := by decide +kernel
theorem dX8_isEnd_12 : decode cX8_isEnd 12 = .ok (.imul, 1) := by decide +kernel
theorem dX8_isEnd_13 : decode cX8_isEnd 13 = .ok (.aload_n 0, 1) := by decide +kernel
theorem dX8_isEnd_14 : decode cX8_isEnd 14 = .ok (.getfield 139, 3) := by decide +kernel
theorem dX8_isEnd_17 : decode cX8_isEnd 17 = .ok (.iload_n 2, 1) := by decide +kernel
theorem dX8_isEnd_18 : decode cX8_isEnd 18 = .ok (.iadd, 1) := by decide +kernel
theorem dX8_isEnd_19 : decode cX8_isEnd 19 = .ok (.aload_n 0, 1) := by decide +kernel
theorem dX8_isEnd_20 : decode cX8_isEnd 20 = .ok (.getfield 129, 3) := by decide +kernel
theorem dX8_isEnd_23 : decode cX8_isEnd 23 = .ok (.if_icmp .ge 16, 3) := by decide +kernel
theorem dX8_isEnd_26 : decode cX8_isEnd 26 = .ok (.aload_n 0, 1) := by decide +kernel
theorem dX8_isEnd_27 : decode cX8_isEnd 27 = .ok (.aload_n 0, 1) := by decide +kernel
theorem dX8_isEnd_28 : decode cX8_isEnd 28 = .ok (.getfield 139, 3) := by decide +kernel
theorem dX8_isEnd_31 : decode cX8_isEnd 31 = .ok (.iload_n 2, 1) := by decide +kernel
theorem dX8_isEnd_32 : decode cX8_isEnd 32 = .ok (.iadd, 1) := by decide +kernel
theorem dX8_isEnd_33 : decode cX8_isEnd 33 = .ok (.invokevirtual 132, 3) := by decide +kernel
theorem dX8_isEnd_36 : decode cX8_isEnd 36 = .ok (.goto 4, 3) := by decide +kernel
theorem dX8_isEnd_39 : decode cX8_isEnd 39 = .ok (.iconst 0, 1) := by decide +kernel
theorem dX8_isEnd_40 : decode cX8_isEnd 40 = .ok (.iadd, 1) := by decide +kernel
theorem dX8_isEnd_41 : decode cX8_isEnd 41 = .ok (.istore_n 1, 1) := by decide +kernel
theorem dX8_isEnd_42 : decode cX8_isEnd 42 = .ok (.iinc 2 1, 3) := by decide +kernel
theorem dX8_isEnd_45 : decode cX8_isEnd 45 = .ok (.goto (-41), 3) := by decide +kernel
theorem dX8_isEnd_48 : decode cX8_isEnd 48 = .ok (.iload_n 1, 1) := by decide +kernel
theorem dX8_isEnd_49 : decode cX8_isEnd 49 = .ok (.sipush 4097, 3) := by decide +kernel
theorem dX8_isEnd_52 : decode cX8_isEnd 52 = .ok (.if_icmp .ne 7, 3) := by decide +kernel
theorem dX8_isEnd_55 : decode cX8_isEnd 55 = .ok (.iconst 1, 1) := by decide +kernel
theorem dX8_isEnd_56 : decode cX8_isEnd 56 = .ok (.goto 4, 3) := by decide +kernel
theorem dX8_isEnd_59 : decode cX8_isEnd 59 = .ok (.iconst 0, 1) := by decide +kernel
theorem dX8_isEnd_60 : decode cX8_isEnd 60 = .ok (.ireturn, 1) := by decide +kernel
abbrev po_c_X8_isEnd (g : GG) (h0 : Nat) (xa : Nat) (xb : Nat) (xc : Nat) (xd : Nat) (xe : Nat) (xf : Nat) (xg : Nat) (xm : Nat) (xv : Nat) (xw : Nat) (xq : Nat) (xr : Nat) (xh : Nat) (xo : Nat) (xp : Nat) (vc : Int) (vk : Int) (vw : Int) (vg : Int) (vb : Int) (vi : Int) (ve : Int) (vf : Int) (vu : Int) (vl : Int) (vr : Int) (va : Int) (vt : Int) (vm : Int) (vd : Int) (vx : Int) (f : Nat → Int32) (fq : Nat → Int32) : Option Value → va_W → Prop := fun v8 w8 => ∃ r : Int, v8 = some (.int (iI r)) ∧ w8 = [(h0, ob 8 [.ref xa, .ref xb, .ref xc, .ref xd, .ref xe, .ref xf, .ref xg, .int (iI vc), .int (iI vk), .int (iI vw), .ref xm, .ref xv, .int (iI vg), .ref xw, .int (iI vb), .int (iI vi), .ref xq, .int (iI ve), .int (iI vf), .int (iI vu), .int (iI vl), .ref xr, .ref xh, .ref xo, .ref xp, .int (iI vr), .int (iI va), .int (iI vt), .int (iI vm), .int (iI vd), .int (iI vx)]), (xw, aI g 72000 f), (xq, aI g 2000 fq)] ∧ (0 ≤ r ∧ r ≤ 1)
set_option maxHeartbeats 4000000 in
set_option maxRecDepth 100000 in
theorem c_X8_isEnd (l : Launch) (g : GG) (h0 : Nat) (xa : Nat) (xb : Nat) (xc : Nat) (xd : Nat) (xe : Nat) (xf : Nat) (xg : Nat) (xm : Nat) (xv : Nat) (xw : Nat) (xq : Nat) (xr : Nat) (xh : Nat) (xo : Nat) (xp : Nat) (vc : Int) (vk : Int) (vw : Int) (vg : Int) (vb : Int) (vi : Int) (ve : Int) (vf : Int) (vu : Int) (vl : Int) (vr : Int) (va : Int) (vt : Int) (vm : Int) (vd : Int) (vx : Int) (f : Nat → Int32) (fq : Nat → Int32) (hp0 : sOk vm vt) (hp1 : 0 ≤ vt ∧ vt ≤ 576000) (hp2 : 0 ≤ vl ∧ vl ≤ 1) (hp3 : 0 ≤ vm ∧ vm ≤ 1) (hp4 : 0 ≤ va ∧ va ≤ vt) : Ct l g yX8_isEnd (wM yX8_isEnd cX8_isEnd 3 (some .boolean)) (rmD 1 0 0) [.ref h0] [(h0, ob 8 [.ref xa, .ref xb, .ref xc, .ref xd, .ref xe, .ref xf, .ref xg, .int (iI vc), .int (iI vk), .int (iI vw), .ref xm, .ref xv, .int (iI vg), .ref xw, .int (iI vb), .int (iI vi), .ref xq, .int (iI ve), .int (iI vf), .int (iI vu), .int (iI vl), .ref xr, .ref xh, .ref xo, .ref xp, .int (iI vr), .int (iI va), .int (iI vt), .int (iI vm), .int (iI vd), .int (iI vx)]), (xw, aI g 72000 f), (xq, aI g 2000 fq)] (po_c_X8_isEnd g h0 xa xb xc xd xe xf xg xm xv xw xq xr xh xo xp vc vk vw vg vb vi ve vf vu vl vr va vt vm vd vx f fq) := by
  refine Ct_of (by decide +kernel) (Nat.le_of_ble_eq_true rfl) ?_
  intro p9 e9 s9 m9 ag9 bl9 mt9 c9 A9 fx hr hnm
  refine v_iconst fx dX8_isEnd_0 rfl ?_
  refine v_istore_n fx [(1, .int (iI 0)), (0, .ref h0)] dX8_isEnd_1 (by decide) rfl rfl ?_
  refine v_iconst fx dX8_isEnd_2 rfl ?_
  refine v_istore_n fx [(2, .int (iI 0)), (1, .int (iI 0)), (0, .ref h0)] dX8_isEnd_3 (by decide) rfl rfl ?_
  have L4 : ∀ (N : Nat) (k : Int) (v : Int32), (0 ≤ k ∧ k ≤ 24) → ((24 - k).toNat) < N → V p9 l e9 (rmD 1 0 0) s9 m9 ag9 bl9 mt9 c9 3 g A9 (MQ bl9 (cQ g (po_c_X8_isEnd g h0 xa xb xc xd xe xf xg xm xv xw xq xr xh xo xp vc vk vw vg vb vi ve vf vu vl vr va vt vm vd vx f fq) A9) ag9 s9 0 0 A9) [(h0, ob 8 [.ref xa, .ref xb, .ref xc, .ref xd, .ref xe, .ref xf, .ref xg, .int (iI vc), .int (iI vk), .int (iI vw), .ref xm, .ref xv, .int (iI vg), .ref xw, .int (iI vb), .int (iI vi), .ref xq, .int (iI ve), .int (iI vf), .int (iI vu), .int (iI vl), .ref xr, .ref xh, .ref xo, .ref xp, .int (iI vr), .int (iI va), .int (iI vt), .int (iI vm), .int (iI vd), .int (iI vx)]), (xw, aI g 72000 f), (xq, aI g 2000 fq)] 0 0 [(0, .ref h0), (1, .int v), (2, .int (iI k))] 4 [] := by
    intro N
    induction N with
    | zero => intro k v hi4_0 hN; exact absurd hN (Nat.not_lt_zero _)
    | succ N ihL4 =>
      intro k v hi4_0 hN4
      refine v_iload_n fx 2 dX8_isEnd_4 rfl rfl ?_
      refine v_bipush fx dX8_isEnd_5 (by decide +kernel) rfl ?_
      refine v_icmp_ge fx 48 dX8_isEnd_7 (by decide) rfl (by omega) (by omega) (fun h_1 => ?_) (fun h_1 => ?_)
      ·
        refine v_iload_n fx 1 dX8_isEnd_48 rfl rfl ?_
        refine v_any (fun z_2 hz_2 ez_2 => ?_)
        refine v_sipush fx dX8_isEnd_49 (by decide +kernel) rfl ?_
        refine v_icmp_ne fx 59 dX8_isEnd_52 (by decide) rfl (by omega) (by omega) (fun h_3 => ?_) (fun h_3 => ?_)
        ·
          refine v_iconst fx dX8_isEnd_59 rfl ?_
          exact v_zret fx [(h0, ob 8 [.ref xa, .ref xb, .ref xc, .ref xd, .ref xe, .ref xf, .ref xg, .int (iI vc), .int (iI vk), .int (iI vw), .ref xm, .ref xv, .int (iI vg), .ref xw, .int (iI vb), .int (iI vi), .ref xq, .int (iI ve), .int (iI vf), .int (iI vu), .int (iI vl), .ref xr, .ref xh, .ref xo, .ref xp, .int (iI vr), .int (iI va), .int (iI vt), .int (iI vm), .int (iI vd), .int (iI vx)]), (xw, aI g 72000 f), (xq, aI g 2000 fq)] [0, 1, 2] hr dX8_isEnd_60 (by first | rfl | exact nar_z _ (by omega)) rfl rfl (nl rfl) (nl rfl) ⟨0, rfl, rfl, (by first | omega | rfl | assumption)⟩
        ·
          refine v_iconst fx dX8_isEnd_55 rfl ?_
          refine v_goto fx 60 dX8_isEnd_56 (by decide) ?_
          exact v_zret fx [(h0, ob 8 [.ref xa, .ref xb, .ref xc, .ref xd, .ref xe, .ref xf, .ref xg, .int (iI vc), .int (iI vk), .int (iI vw), .ref xm, .ref xv, .int (iI vg), .ref xw, .int (iI vb), .int (iI vi), .ref xq, .int (iI ve), .int (iI vf), .int (iI vu), .int (iI vl), .ref xr, .ref xh, .ref xo, .ref xp, .int (iI vr), .int (iI va), .int (iI vt), .int (iI vm), .int (iI vd), .int (iI vx)]), (xw, aI g 72000 f), (xq, aI g 2000 fq)] [0, 1, 2] hr dX8_isEnd_60 (by first | rfl | exact nar_z _ (by omega)) rfl rfl (nl rfl) (nl rfl) ⟨1, rfl, rfl, (by first | omega | rfl | assumption)⟩
      ·
        refine v_iconst fx dX8_isEnd_10 rfl ?_
        refine v_iload_n fx 1 dX8_isEnd_11 rfl rfl ?_
        refine v_imulR fx ((iI 2) * v) dX8_isEnd_12 rfl rfl ?_
        refine v_aload_n fx 0 dX8_isEnd_13 rfl rfl ?_
        refine v_get fx 0 26 inX8 k1022 dX8_isEnd_14 rfl rfl (by decide) rfl rfl rfl ?_
        refine v_iload_n fx 2 dX8_isEnd_17 rfl rfl ?_
        refine v_iadd fx (va + k) dX8_isEnd_18 (by rfl) rfl ?_
        refine v_aload_n fx 0 dX8_isEnd_19 rfl rfl ?_
        refine v_get fx 0 27 inX8 k1023 dX8_isEnd_20 rfl rfl (by decide) rfl rfl rfl ?_
        refine v_icmp_ge fx 39 dX8_isEnd_23 (by decide) rfl (by omega) (by omega) (fun h_4 => ?_) (fun h_4 => ?_)
        ·
          refine v_iconst fx dX8_isEnd_39 rfl ?_
          refine v_iaddR fx (((iI 2) * v) + (iI 0)) dX8_isEnd_40 rfl rfl ?_
          refine v_istore_n fx [(1, .int (((iI 2) * v) + (iI 0))), (0, .ref h0), (2, .int (iI k))] dX8_isEnd_41 (by decide) rfl rfl ?_
          refine v_iinc fx 2 (k + 1) [(2, .int (iI (k + 1))), (1, .int (((iI 2) * v) + (iI 0))), (0, .ref h0)] dX8_isEnd_42 rfl (by omega) (by decide) rfl rfl ?_
          refine v_goto fx 4 dX8_isEnd_45 (by decide) ?_
          refine v_lv [2, 1, 0] [(0, .ref h0), (1, .int (((iI 2) * v) + (iI 0))), (2, .int (iI (k + 1)))] rfl ?_
          exact ihL4 (k + 1) (((iI 2) * v) + (iI 0)) (by omega) (by omega)
        ·
          refine v_aload_n fx 0 dX8_isEnd_26 rfl rfl ?_
          refine v_aload_n fx 0 dX8_isEnd_27 rfl rfl ?_
          refine v_get fx 0 26 inX8 k1022 dX8_isEnd_28 rfl rfl (by decide) rfl rfl rfl ?_
          refine v_iload_n fx 2 dX8_isEnd_31 rfl rfl ?_
          refine v_iadd fx (va + k) dX8_isEnd_32 (by rfl) rfl ?_
          refine v_callV (As := [.int (iI (va + k))]) (rest := [.int ((iI 2) * v)]) fx [0, 1, 2] [] [(h0, ob 8 [.ref xa, .ref xb, .ref xc, .ref xd, .ref xe, .ref xf, .ref xg, .int (iI vc), .int (iI vk), .int (iI vw), .ref xm, .ref xv, .int (iI vg), .ref xw, .int (iI vb), .int (iI vi), .ref xq, .int (iI ve), .int (iI vf), .int (iI vu), .int (iI vl), .ref xr, .ref xh, .ref xo, .ref xp, .int (iI vr), .int (iI va), .int (iI vt), .int (iI vm), .int (iI vd), .int (iI vx)]), (xw, aI g 72000 f), (xq, aI g 2000 fq)] [] 1 0 (c_X8_bitAt l g h0 xa xb xc xd xe xf xg xm xv xw xq xr xh xo xp vc vk vw vg vb vi ve vf vu vl vr va vt vm vd vx f fq (va + k) (by first | omega | decide | assumption) (by first | omega | decide | assumption) (by first | omega | decide | assumption) (by first | omega | decide | assumption) (by first | omega | decide | assumption)) dX8_isEnd_33 k1166 k1168 k34 k57 k1169 ykX8_bitAt rfl rfl rfl rfl rfl rfl rfl rfl (nl rfl) ⟨nl rfl, nl rfl⟩ ⟨(nl rfl), (nl rfl)⟩ rfl (fun v9 w9 hu => ?_)
          obtain ⟨r_5, rfl, rfl, u_6⟩ := hu
          refine v_is (wn := [(h0, ob 8 [.ref xa, .ref xb, .ref xc, .ref xd, .ref xe, .ref xf, .ref xg, .int (iI vc), .int (iI vk), .int (iI vw), .ref xm, .ref xv, .int (iI vg), .ref xw, .int (iI vb), .int (iI vi), .ref xq, .int (iI ve), .int (iI vf), .int (iI vu), .int (iI vl), .ref xr, .ref xh, .ref xo, .ref xp, .int (iI vr), .int (iI va), .int (iI vt), .int (iI vm), .int (iI vd), .int (iI vx)]), (xw, aI g 72000 f), (xq, aI g 2000 fq)]) (cn := 0) (sn := 0) (sn2 := [.int (iI r_5), .int ((iI 2) * v)]) rfl rfl rfl rfl ?_
          refine v_goto fx 40 dX8_isEnd_36 (by decide) ?_
          refine v_iaddR fx (((iI 2) * v) + (iI r_5)) dX8_isEnd_40 rfl rfl ?_
          refine v_istore_n fx [(1, .int (((iI 2) * v) + (iI r_5))), (0, .ref h0), (2, .int (iI k))] dX8_isEnd_41 (by decide) rfl rfl ?_
          refine v_iinc fx 2 (k + 1) [(2, .int (iI (k + 1))), (1, .int (((iI 2) * v) + (iI r_5))), (0, .ref h0)] dX8_isEnd_42 rfl (by omega) (by decide) rfl rfl ?_
          refine v_goto fx 4 dX8_isEnd_45 (by decide) ?_
          refine v_lv [2, 1, 0] [(0, .ref h0), (1, .int (((iI 2) * v) + (iI r_5))), (2, .int (iI (k + 1)))] rfl ?_
          exact ihL4 (k + 1) (((iI 2) * v) + (iI r_5)) (by omega) (by omega)
  refine v_lv [2, 1, 0] [(0, .ref h0), (1, .int (iI 0)), (2, .int (iI 0))] rfl ?_
  exact L4 _ 0 (iI 0) (by omega) (Nat.lt_succ_self _)
theorem dX8_readUnmarked_0 : decode cX8_readUnmarked 0 = .ok (.iconst 0, 1) := by decide +kernel
theorem dX8_readUnmarked_1 : decode cX8_readUnmarked 1 = .ok (.istore_n 1, 1) := by decide +kernel
theorem dX8_readUnmarked_2 : decode cX8_readUnmarked 2 = .ok (.aload_n 0, 1) := by decide +kernel
theorem dX8_readUnmarked_3 : decode cX8_readUnmarked 3 = .ok (.iconst 0, 1) := by decide +kernel
theorem dX8_readUnmarked_4 : decode cX8_readUnmarked 4 = .ok (.putfield 139, 3) := by decide +kernel
theorem dX8_readUnmarked_7 : decode cX8_readUnmarked 7 = .ok (.aload_n 0, 1) := by decide +kernel
theorem dX8_readUnmarked_8 : decode cX8_readUnmarked 8 = .ok (.getfield 139, 3) := by decide +kernel
theorem dX8_readUnmarked_11 : decode cX8_readUnmarked 11 = .ok (.aload_n 0, 1) := by decide +kernel
theorem dX8_readUnmarked_12 : decode cX8_readUnmarked 12 = .ok (.getfield 129, 3) := by decide +kernel
theorem dX8_readUnmarked_15 : decode cX8_readUnmarked 15 = .ok (.if_icmp .ge 52, 3) := by decide +kernel
theorem dX8_readUnmarked_18 : decode cX8_readUnmarked 18 = .ok (.aload_n 0, 1) := by decide +kernel
theorem dX8_readUnmarked_19 : decode cX8_readUnmarked 19 = .ok (.invokevirtual 180, 3) := by decide +kernel
theorem dX8_readUnmarked_22 : decode cX8_readUnmarked 22 = .ok (.ifCond .ne 45, 3) := by decide +kernel
theorem dX8_readUnmarked_25 : decode cX8_readUnmarked 25 = .ok (.aload_n 0, 1) := by decide +kernel
theorem dX8_readUnmarked_26 : decode cX8_readUnmarked 26 = .ok (.iload_n 1, 1) := by decide +kernel
theorem dX8_readUnmarked_27 : decode cX8_readUnmarked 27 = .ok (.iconst 0, 1) := by decide +kernel
theorem dX8_readUnmarked_28 : decode cX8_readUnmarked 28 = .ok (.invokevirtual 177, 3) := by decide +kernel
theorem dX8_readUnmarked_31 : decode cX8_readUnmarked 31 = .ok (.aload_n 0, 1) := by decide +kernel
theorem dX8_readUnmarked_32 : decode cX8_readUnmarked 32 = .ok (.getfield 157, 3) := by decide +kernel
theorem dX8_readUnmarked_35 : decode cX8_readUnmarked 35 = .ok (.ifCond .eq 6, 3) := by decide +kernel
theorem dX8_readUnmarked_38 : decode cX8_readUnmarked 38 = .ok (.bipush (-2), 2) := by decide +kernel
theorem dX8_readUnmarked_40 : decode cX8_readUnmarked 40 = .ok (.ireturn, 1) := by decide +kernel
theorem dX8_readUnmarked_41 : decode cX8_readUnmarked 41 = .ok (.aload_n 0, 1) := by decide +kernel
theorem dX8_readUnmarked_42 : decode cX8_readUnmarked 42 = .ok (.getfield 49, 3) := by decide +kernel
theorem dX8_readUnmarked_45 : decode cX8_readUnmarked 45 = .ok (.iload_n 1, 1) := by decide +kernel
theorem dX8_readUnmarked_46 : decode cX8_readUnmarked 46 = .ok (.baload, 1) := by decide +kernel
theorem dX8_readUnmarked_47 : decode cX8_readUnmarked 47 = .ok (.ifCond .eq 5, 3) := by decide +kernel
theorem dX8_readUnmarked_50 : decode cX8_readUnmarked 50 = .ok (.iload_n 1, 1) := by decide +kernel
theorem dX8_readUnmarked_51 : decode cX8_readUnmarked 51 = .ok (.ireturn, 1) := by decide +kernel
theorem dX8_readUnmarked_52 : decode cX8_readUnmarked 52 = .ok (.iload_n 1, 1) := by decide +kernel
theorem dX8_readUnmarked_53 : decode cX8_readUnmarked 53 = .ok (.bipush 24, 2) := by decide +kernel
theorem dX8_readUnmarked_55 : decode cX8_readUnmarked 55 = .ok (.if_icmp .ne 6, 3) := by decide +kernel
theorem dX8_readUnmarked_58 : decode cX8_readUnmarked 58 = .ok (.bipush (-3), 2) := by decide +kernel
theorem dX8_readUnmarked_60 : decode cX8_readUnmarked 60 = .ok (.ireturn, 1) := by decide +kernel
theorem dX8_readUnmarked_61 : decode cX8_readUnmarked 61 = .ok (.iinc 1 1, 3) := by decide +kernel
theorem dX8_readUnmarked_64 : decode cX8_readUnmarked 64 = .ok (.goto (-57), 3) := by decide +kernel
theorem dX8_readUnmarked_67 : decode cX8_readUnmarked 67 = .ok (.iload_n 1, 1) := by decide +kernel
theorem dX8_readUnmarked_68 : decode cX8_readUnmarked 68 = .ok (.ireturn, 1) := by decide +kernel
abbrev po_c_X8_readUnmarked (g : GG) (h0 : Nat) (xa : Nat) (xb : Nat) (xc : Nat) (xd : Nat) (xe : Nat) (xf : Nat) (xg : Nat) (xm : Nat) (xv : Nat) (xw : Nat) (xq : Nat) (xr : Nat) (xh : Nat) (xo : Nat) (xp : Nat) (vc : Int) (vk : Int) (vw : Int) (vg : Int) (vb : Int) (vi : Int) (ve : Int) (vf : Int) (vu : Int) (vl : Int) (vr : Int) (va : Int) (vt : Int) (vm : Int) (vd : Int) (vx : Int) (f : Nat → Int32) (fq : Nat → Int32) (fw : Nat → Int32) (fb : Nat → Int32) (fr : Nat → Int32) (fm : Nat → Int32) (fc : Nat → Int32) (fh : Nat → Int32) : Option Value → va_W → Prop := fun v8 w8 => ∃ r : Int, ∃ a2 : Int, ∃ d2 : Int, ∃ x2 : Int, ∃ g2 : Nat → Int32, ∃ g3 : Nat → Int32, ∃ g4 : Nat → Int32, ∃ g5 : Nat → Int32, v8 = some (.int (iI r)) ∧ w8 = [(h0, ob 8 [.ref xa, .ref xb, .ref xc, .ref xd, .ref xe, .ref xf, .ref xg, .int (iI vc), .int (iI vk), .int (iI vw), .ref xm, .ref xv, .int (iI vg), .ref xw, .int (iI vb), .int (iI vi), .ref xq, .int (iI ve), .int (iI vf), .int (iI vu), .int (iI vl), .ref xr, .ref xh, .ref xo, .ref xp, .int (iI vr), .int (iI a2), .int (iI vt), .int (iI vm), .int (iI d2), .int (iI x2)]), (xw, aI g 72000 f), (xq, aI g 2000 fq), (xf, aI g 16384 fw), (xg, aI g 16384 fb), (xr, aZ g 75000 g2), (xo, aI g 75100 g3), (xp, aI g 25 g4), (xh, aZ g 25 g5)] ∧ (-3 ≤ r ∧ r ≤ 24) ∧ (mC g4)
set_option maxHeartbeats 4000000 in
set_option maxRecDepth 100000 in
theorem c_X8_readUnmarked (l : Launch) (g : GG) (h0 : Nat) (xa : Nat) (xb : Nat) (xc : Nat) (xd : Nat) (xe : Nat) (xf : Nat) (xg : Nat) (xm : Nat) (xv : Nat) (xw : Nat) (xq : Nat) (xr : Nat) (xh : Nat) (xo : Nat) (xp : Nat) (vc : Int) (vk : Int) (vw : Int) (vg : Int) (vb : Int) (vi : Int) (ve : Int) (vf : Int) (vu : Int) (vl : Int) (vr : Int) (va : Int) (vt : Int) (vm : Int) (vd : Int) (vx : Int) (f : Nat → Int32) (fq : Nat → Int32) (fw : Nat → Int32) (fb : Nat → Int32) (fr : Nat → Int32) (fm : Nat → Int32) (fc : Nat → Int32) (fh : Nat → Int32) (hp0 : sOk vm vt) (hp1 : 0 ≤ vt ∧ vt ≤ 576000) (hp2 : 0 ≤ vl ∧ vl ≤ 1) (hp3 : 0 ≤ vm ∧ vm ≤ 1) (hp4 : rR fw) (hp5 : rR fb) (hp6 : 1 ≤ vw ∧ vw ≤ 3000) (hp7 : mC fc) (hp8 : -2147483648 ≤ vu ∧ vu < 2147483648) (hp9 : vx = 0) : Ct l g yX8_readUnmarked (wM yX8_readUnmarked cX8_readUnmarked 2 (some .int)) (rmD 5 0 0) [.ref h0] [(h0, ob 8 [.ref xa, .ref xb, .ref xc, .ref xd, .ref xe, .ref xf, .ref xg, .int (iI vc), .int (iI vk), .int (iI vw), .ref xm, .ref xv, .int (iI vg), .ref xw, .int (iI vb), .int (iI vi), .ref xq, .int (iI ve), .int (iI vf), .int (iI vu), .int (iI vl), .ref xr, .ref xh, .ref xo, .ref xp, .int (iI vr), .int (iI va), .int (iI vt), .int (iI vm), .int (iI vd), .int (iI vx)]), (xw, aI g 72000 f), (xq, aI g 2000 fq), (xf, aI g 16384 fw), (xg, aI g 16384 fb), (xr, aZ g 75000 fr), (xo, aI g 75100 fm), (xp, aI g 25 fc), (xh, aZ g 25 fh)] (po_c_X8_readUnmarked g h0 xa xb xc xd xe xf xg xm xv xw xq xr xh xo xp vc vk vw vg vb vi ve vf vu vl vr va vt vm vd vx f fq fw fb fr fm fc fh) := by
  refine Ct_of (by decide +kernel) (Nat.le_of_ble_eq_true rfl) ?_
  intro p9 e9 s9 m9 ag9 bl9 mt9 c9 A9 fx hr hnm
  refine v_iconst fx dX8_readUnmarked_0 rfl ?_
  refine v_istore_n fx [(1, .int (iI 0)), (0, .ref h0)] dX8_readUnmarked_1 (by decide) rfl rfl ?_
  refine v_aload_n fx 1 dX8_readUnmarked_2 rfl rfl ?_
  refine v_iconst fx dX8_readUnmarked_3 rfl ?_
  refine v_put fx 0 26 [(h0, ob 8 [.ref xa, .ref xb, .ref xc, .ref xd, .ref xe, .ref xf, .ref xg, .int (iI vc), .int (iI vk), .int (iI vw), .ref xm, .ref xv, .int (iI vg), .ref xw, .int (iI vb), .int (iI vi), .ref xq, .int (iI ve), .int (iI vf), .int (iI vu), .int (iI vl), .ref xr, .ref xh, .ref xo, .ref xp, .int (iI vr), .int (iI 0), .int (iI vt), .int (iI vm), .int (iI vd), .int (iI vx)]), (xw, aI g 72000 f), (xq, aI g 2000 fq), (xf, aI g 16384 fw), (xg, aI g 16384 fb), (xr, aZ g 75000 fr), (xo, aI g 75100 fm), (xp, aI g 25 fc), (xh, aZ g 25 fh)] inX8 tyX8_ok nmX8 k1022 dX8_readUnmarked_4 rfl rfl (by decide) rfl rfl rfl rfl (nl rfl) rfl rfl ?_
  have L7 : ∀ (N : Nat) (n : Int) (pa : Int) (pd : Int) (px : Int) (f1 : Nat → Int32) (f2 : Nat → Int32) (f3 : Nat → Int32) (f4 : Nat → Int32), (0 ≤ n ∧ n ≤ 24) → (0 ≤ pa ∧ pa ≤ vt) → (px = 0) → (mC f3) → ((25 - n).toNat) < N → V p9 l e9 (rmD 5 0 0) s9 m9 ag9 bl9 mt9 c9 2 g A9 (MQ bl9 (cQ g (po_c_X8_readUnmarked g h0 xa xb xc xd xe xf xg xm xv xw xq xr xh xo xp vc vk vw vg vb vi ve vf vu vl vr va vt vm vd vx f fq fw fb fr fm fc fh) A9) ag9 s9 0 0 A9) [(h0, ob 8 [.ref xa, .ref xb, .ref xc, .ref xd, .ref xe, .ref xf, .ref xg, .int (iI vc), .int (iI vk), .int (iI vw), .ref xm, .ref xv, .int (iI vg), .ref xw, .int (iI vb), .int (iI vi), .ref xq, .int (iI ve), .int (iI vf), .int (iI vu), .int (iI vl), .ref xr, .ref xh, .ref xo, .ref xp, .int (iI vr), .int (iI pa), .int (iI vt), .int (iI vm), .int (iI pd), .int (iI px)]), (xw, aI g 72000 f), (xq, aI g 2000 fq), (xf, aI g 16384 fw), (xg, aI g 16384 fb), (xr, aZ g 75000 f1), (xo, aI g 75100 f2), (xp, aI g 25 f3), (xh, aZ g 25 f4)] 0 0 [(0, .ref h0), (1, .int (iI n))] 7 [] := by
    intro N
    induction N with
    | zero => intro n pa pd px f1 f2 f3 f4 hi7_0 hi7_1 hi7_2 hi7_3 hN; exact absurd hN (Nat.not_lt_zero _)
    | succ N ihL7 =>
      intro n pa pd px f1 f2 f3 f4 hi7_0 hi7_1 hi7_2 hi7_3 hN7
      refine v_aload_n fx 0 dX8_readUnmarked_7 rfl rfl ?_
      refine v_get fx 0 26 inX8 k1022 dX8_readUnmarked_8 rfl rfl (by decide) rfl rfl rfl ?_
      refine v_aload_n fx 0 dX8_readUnmarked_11 rfl rfl ?_
      refine v_get fx 0 27 inX8 k1023 dX8_readUnmarked_12 rfl rfl (by decide) rfl rfl rfl ?_
      refine v_icmp_ge fx 67 dX8_readUnmarked_15 (by decide) rfl (by omega) (by omega) (fun h_1 => ?_) (fun h_1 => ?_)
      ·
        refine v_iload_n fx 1 dX8_readUnmarked_67 rfl rfl ?_
        exact v_iret fx [(h0, ob 8 [.ref xa, .ref xb, .ref xc, .ref xd, .ref xe, .ref xf, .ref xg, .int (iI vc), .int (iI vk), .int (iI vw), .ref xm, .ref xv, .int (iI vg), .ref xw, .int (iI vb), .int (iI vi), .ref xq, .int (iI ve), .int (iI vf), .int (iI vu), .int (iI vl), .ref xr, .ref xh, .ref xo, .ref xp, .int (iI vr), .int (iI pa), .int (iI vt), .int (iI vm), .int (iI pd), .int (iI px)]), (xw, aI g 72000 f), (xq, aI g 2000 fq), (xf, aI g 16384 fw), (xg, aI g 16384 fb), (xr, aZ g 75000 f1), (xo, aI g 75100 f2), (xp, aI g 25 f3), (xh, aZ g 25 f4)] [0, 1, 2, 3, 4, 5, 6, 7, 8] hr dX8_readUnmarked_68 rfl rfl (nl rfl) (nl rfl) ⟨n, pa, pd, px, f1, f2, f3, f4, rfl, rfl, (by first | omega | rfl | assumption), (by exact hi7_3)⟩
      ·
        refine v_aload_n fx 0 dX8_readUnmarked_18 rfl rfl ?_
        refine v_callV (As := []) (rest := []) fx [0, 1, 2] [3, 4, 5, 6, 7, 8] [(h0, ob 8 [.ref xa, .ref xb, .ref xc, .ref xd, .ref xe, .ref xf, .ref xg, .int (iI vc), .int (iI vk), .int (iI vw), .ref xm, .ref xv, .int (iI vg), .ref xw, .int (iI vb), .int (iI vi), .ref xq, .int (iI ve), .int (iI vf), .int (iI vu), .int (iI vl), .ref xr, .ref xh, .ref xo, .ref xp, .int (iI vr), .int (iI pa), .int (iI vt), .int (iI vm), .int (iI pd), .int (iI px)]), (xw, aI g 72000 f), (xq, aI g 2000 fq)] [(xf, aI g 16384 fw), (xg, aI g 16384 fb), (xr, aZ g 75000 f1), (xo, aI g 75100 f2), (xp, aI g 25 f3), (xh, aZ g 25 f4)] 0 0 (c_X8_isEnd l g h0 xa xb xc xd xe xf xg xm xv xw xq xr xh xo xp vc vk vw vg vb vi ve vf vu vl vr pa vt vm pd px f fq (by first | omega | decide | assumption) (by first | omega | decide | assumption) (by first | omega | decide | assumption) (by first | omega | decide | assumption) (by first | omega | decide | assumption)) dX8_readUnmarked_19 k1162 k1164 k33 k57 k1165 ykX8_isEnd rfl rfl rfl rfl rfl rfl rfl rfl (nl rfl) ⟨nl rfl, nl rfl⟩ ⟨(nl rfl), (nl rfl)⟩ rfl (fun v9 w9 hu => ?_)
        obtain ⟨r_2, rfl, rfl, u_3⟩ := hu
        refine v_is (wn := [(xf, aI g 16384 fw), (xg, aI g 16384 fb), (xr, aZ g 75000 f1), (xo, aI g 75100 f2), (xp, aI g 25 f3), (xh, aZ g 25 f4), (h0, ob 8 [.ref xa, .ref xb, .ref xc, .ref xd, .ref xe, .ref xf, .ref xg, .int (iI vc), .int (iI vk), .int (iI vw), .ref xm, .ref xv, .int (iI vg), .ref xw, .int (iI vb), .int (iI vi), .ref xq, .int (iI ve), .int (iI vf), .int (iI vu), .int (iI vl), .ref xr, .ref xh, .ref xo, .ref xp, .int (iI vr), .int (iI pa), .int (iI vt), .int (iI vm), .int (iI pd), .int (iI px)]), (xw, aI g 72000 f), (xq, aI g 2000 fq)]) (cn := 0) (sn := 0) (sn2 := [.int (iI r_2)]) rfl rfl rfl rfl ?_
        refine v_if_ne fx 67 dX8_readUnmarked_22 (by decide) rfl (by omega) (fun h_4 => ?_) (fun h_4 => ?_)
        ·
          refine v_iload_n fx 1 dX8_readUnmarked_67 rfl rfl ?_
          exact v_iret fx [(h0, ob 8 [.ref xa, .ref xb, .ref xc, .ref xd, .ref xe, .ref xf, .ref xg, .int (iI vc), .int (iI vk), .int (iI vw), .ref xm, .ref xv, .int (iI vg), .ref xw, .int (iI vb), .int (iI vi), .ref xq, .int (iI ve), .int (iI vf), .int (iI vu), .int (iI vl), .ref xr, .ref xh, .ref xo, .ref xp, .int (iI vr), .int (iI pa), .int (iI vt), .int (iI vm), .int (iI pd), .int (iI px)]), (xw, aI g 72000 f), (xq, aI g 2000 fq), (xf, aI g 16384 fw), (xg, aI g 16384 fb), (xr, aZ g 75000 f1), (xo, aI g 75100 f2), (xp, aI g 25 f3), (xh, aZ g 25 f4)] [6, 7, 8, 0, 1, 2, 3, 4, 5] hr dX8_readUnmarked_68 rfl rfl (nl rfl) (nl rfl) ⟨n, pa, pd, px, f1, f2, f3, f4, rfl, rfl, (by first | omega | rfl | assumption), (by exact hi7_3)⟩
        ·
          refine v_aload_n fx 0 dX8_readUnmarked_25 rfl rfl ?_
          refine v_iload_n fx 1 dX8_readUnmarked_26 rfl rfl ?_
          refine v_iconst fx dX8_readUnmarked_27 rfl ?_
          refine v_callV (As := [.int (iI n), .int (iI 0)]) (rest := []) fx [6, 7, 8, 0, 1, 2, 3, 4, 5] [] [(h0, ob 8 [.ref xa, .ref xb, .ref xc, .ref xd, .ref xe, .ref xf, .ref xg, .int (iI vc), .int (iI vk), .int (iI vw), .ref xm, .ref xv, .int (iI vg), .ref xw, .int (iI vb), .int (iI vi), .ref xq, .int (iI ve), .int (iI vf), .int (iI vu), .int (iI vl), .ref xr, .ref xh, .ref xo, .ref xp, .int (iI vr), .int (iI pa), .int (iI vt), .int (iI vm), .int (iI pd), .int (iI px)]), (xw, aI g 72000 f), (xq, aI g 2000 fq), (xf, aI g 16384 fw), (xg, aI g 16384 fb), (xr, aZ g 75000 f1), (xo, aI g 75100 f2), (xp, aI g 25 f3), (xh, aZ g 25 f4)] [] 2 0 (c_X8_readRow l g h0 xa xb xc xd xe xf xg xm xv xw xq xr xh xo xp vc vk vw vg vb vi ve vf vu vl vr pa vt vm pd px f fq fw fb f1 f2 f3 f4 n 0 (by first | omega | decide | assumption) (by first | omega | decide | assumption) (by first | omega | decide | assumption) (by first | omega | decide | assumption) (by first | omega | decide | assumption) (by first | omega | decide | assumption) (by first | omega | decide | assumption) (by first | omega | decide | assumption) (by first | omega | decide | assumption) (by first | omega | decide | assumption) (by first | omega | decide | assumption) (by first | omega | decide | assumption) (by first | omega | decide | assumption)) dX8_readUnmarked_28 k1170 k1172 k35 k57 k1173 ykX8_readRow rfl rfl rfl rfl rfl rfl rfl rfl (nl rfl) ⟨nl rfl, nl rfl⟩ ⟨(nl rfl), (nl rfl)⟩ rfl (fun v9 w9 hu => ?_)
          obtain ⟨a2_5, d2_6, x2_7, g2_8, g3_9, g4_10, g5_11, rfl, rfl, u_12, u_13, u_14, u_15⟩ := hu
          refine v_is (wn := [(h0, ob 8 [.ref xa, .ref xb, .ref xc, .ref xd, .ref xe, .ref xf, .ref xg, .int (iI vc), .int (iI vk), .int (iI vw), .ref xm, .ref xv, .int (iI vg), .ref xw, .int (iI vb), .int (iI vi), .ref xq, .int (iI ve), .int (iI vf), .int (iI vu), .int (iI vl), .ref xr, .ref xh, .ref xo, .ref xp, .int (iI vr), .int (iI a2_5), .int (iI vt), .int (iI vm), .int (iI d2_6), .int (iI x2_7)]), (xw, aI g 72000 f), (xq, aI g 2000 fq), (xf, aI g 16384 fw), (xg, aI g 16384 fb), (xr, aZ g 75000 g2_8), (xo, aI g 75100 g3_9), (xp, aI g 25 g4_10), (xh, aZ g 25 g5_11)]) (cn := 0) (sn := 0) (sn2 := []) rfl rfl rfl rfl ?_
          refine v_aload_n fx 0 dX8_readUnmarked_31 rfl rfl ?_
          refine v_get fx 0 30 inX8 k1026 dX8_readUnmarked_32 rfl rfl (by decide) rfl rfl rfl ?_
          refine v_if_eq fx 41 dX8_readUnmarked_35 (by decide) rfl (by omega) (fun h_16 => ?_) (fun h_16 => ?_)
          ·
            refine v_aload_n fx 0 dX8_readUnmarked_41 rfl rfl ?_
            refine v_get fx 0 22 inX8 k1018 dX8_readUnmarked_42 rfl rfl (by decide) rfl rfl rfl ?_
            refine v_iload_n fx 1 dX8_readUnmarked_45 rfl rfl ?_
            refine v_zald fx 8 dX8_readUnmarked_46 rfl (by omega) (by omega) rfl ?_
            refine v_any (fun z_17 hz_17 ez_17 => ?_)
            refine v_if_eq fx 52 dX8_readUnmarked_47 (by decide) rfl (by omega) (fun h_18 => ?_) (fun h_18 => ?_)
            ·
              refine v_iload_n fx 1 dX8_readUnmarked_52 rfl rfl ?_
              refine v_bipush fx dX8_readUnmarked_53 (by decide +kernel) rfl ?_
              refine v_icmp_ne fx 61 dX8_readUnmarked_55 (by decide) rfl (by omega) (by omega) (fun h_19 => ?_) (fun h_19 => ?_)
              ·
                refine v_iinc fx 1 (n + 1) [(1, .int (iI (n + 1))), (0, .ref h0)] dX8_readUnmarked_61 rfl (by omega) (by decide) rfl rfl ?_
                refine v_goto fx 7 dX8_readUnmarked_64 (by decide) ?_
                refine v_lv [1, 0] [(0, .ref h0), (1, .int (iI (n + 1)))] rfl ?_
                exact ihL7 (n + 1) a2_5 d2_6 x2_7 g2_8 g3_9 g4_10 g5_11 (by omega) (by omega) (by omega) (by assumption) (by omega)
              ·
                refine v_bipush fx dX8_readUnmarked_58 (by decide +kernel) rfl ?_
                exact v_iret fx [(h0, ob 8 [.ref xa, .ref xb, .ref xc, .ref xd, .ref xe, .ref xf, .ref xg, .int (iI vc), .int (iI vk), .int (iI vw), .ref xm, .ref xv, .int (iI vg), .ref xw, .int (iI vb), .int (iI vi), .ref xq, .int (iI ve), .int (iI vf), .int (iI vu), .int (iI vl), .ref xr, .ref xh, .ref xo, .ref xp, .int (iI vr), .int (iI a2_5), .int (iI vt), .int (iI vm), .int (iI d2_6), .int (iI x2_7)]), (xw, aI g 72000 f), (xq, aI g 2000 fq), (xf, aI g 16384 fw), (xg, aI g 16384 fb), (xr, aZ g 75000 g2_8), (xo, aI g 75100 g3_9), (xp, aI g 25 g4_10), (xh, aZ g 25 g5_11)] [0, 1, 2, 3, 4, 5, 6, 7, 8] hr dX8_readUnmarked_60 rfl rfl (nl rfl) (nl rfl) ⟨(-3), a2_5, d2_6, x2_7, g2_8, g3_9, g4_10, g5_11, rfl, rfl, (by first | omega | rfl | assumption), (by assumption)⟩
            ·
              refine v_iload_n fx 1 dX8_readUnmarked_50 rfl rfl ?_
              exact v_iret fx [(h0, ob 8 [.ref xa, .ref xb, .ref xc, .ref xd, .ref xe, .ref xf, .ref xg, .int (iI vc), .int (iI vk), .int (iI vw), .ref xm, .ref xv, .int (iI vg), .ref xw, .int (iI vb), .int (iI vi), .ref xq, .int (iI ve), .int (iI vf), .int (iI vu), .int (iI vl), .ref xr, .ref xh, .ref xo, .ref xp, .int (iI vr), .int (iI a2_5), .int (iI vt), .int (iI vm), .int (iI d2_6), .int (iI x2_7)]), (xw, aI g 72000 f), (xq, aI g 2000 fq), (xf, aI g 16384 fw), (xg, aI g 16384 fb), (xr, aZ g 75000 g2_8), (xo, aI g 75100 g3_9), (xp, aI g 25 g4_10), (xh, aZ g 25 g5_11)] [0, 1, 2, 3, 4, 5, 6, 7, 8] hr dX8_readUnmarked_51 rfl rfl (nl rfl) (nl rfl) ⟨n, a2_5, d2_6, x2_7, g2_8, g3_9, g4_10, g5_11, rfl, rfl, (by first | omega | rfl | assumption), (by assumption)⟩
          ·
            refine v_bipush fx dX8_readUnmarked_38 (by decide +kernel) rfl ?_
            exact v_iret fx [(h0, ob 8 [.ref xa, .ref xb, .ref xc, .ref xd, .ref xe, .ref xf, .ref xg, .int (iI vc), .int (iI vk), .int (iI vw), .ref xm, .ref xv, .int (iI vg), .ref xw, .int (iI vb), .int (iI vi), .ref xq, .int (iI ve), .int (iI vf), .int (iI vu), .int (iI vl), .ref xr, .ref xh, .ref xo, .ref xp, .int (iI vr), .int (iI a2_5), .int (iI vt), .int (iI vm), .int (iI d2_6), .int (iI x2_7)]), (xw, aI g 72000 f), (xq, aI g 2000 fq), (xf, aI g 16384 fw), (xg, aI g 16384 fb), (xr, aZ g 75000 g2_8), (xo, aI g 75100 g3_9), (xp, aI g 25 g4_10), (xh, aZ g 25 g5_11)] [0, 1, 2, 3, 4, 5, 6, 7, 8] hr dX8_readUnmarked_40 rfl rfl (nl rfl) (nl rfl) ⟨(-2), a2_5, d2_6, x2_7, g2_8, g3_9, g4_10, g5_11, rfl, rfl, (by first | omega | rfl | assumption), (by assumption)⟩
  refine v_lv [1, 0] [(0, .ref h0), (1, .int (iI 0))] rfl ?_
  exact L7 _ 0 0 vd vx fr fm fc fh (by omega) (by omega) (by omega) (by exact hp7) (Nat.lt_succ_self _)
theorem dX8_decode_0 : decode cX8_decode 0 = .ok (.aload_n 0, 1) := by decide +kernel
theorem dX8_decode_1 : decode cX8_decode 1 = .ok (.iconst 0, 1) := by decide +kernel
theorem dX8_decode_2 : decode cX8_decode 2 = .ok (.putfield 66, 3) := by decide +kernel
theorem dX8_decode_5 : decode cX8_decode 5 = .ok (.aload_n 0, 1) := by decide +kernel
theorem dX8_decode_6 : decode cX8_decode 6 = .ok (.iconst 0, 1) := by decide +kernel
theorem dX8_decode_7 : decode cX8_decode 7 = .ok (.putfield 184, 3) := by decide +kernel
theorem dX8_decode_10 : decode cX8_decode 10 = .ok (.aload_n 0, 1) := by decide +kernel
theorem dX8_decode_11 : decode cX8_decode 11 = .ok (.iconst 0, 1) := by decide +kernel
theorem dX8_decode_12 : decode cX8_decode 12 = .ok (.putfield 157, 3) := by decide +kernel
theorem dX8_decode_15 : decode cX8_decode 15 = .ok (.aload_n 0, 1) := by decide +kernel
theorem dX8_decode_16 : decode cX8_decode 16 = .ok (.aload_n 0, 1) := by decide +kernel
theorem dX8_decode_17 : decode cX8_decode 17 = .ok (.getfield 123, 3) := by decide +kernel
theorem dX8_decode_20 : decode cX8_decode 20 = .ok (.ifCond .le 7, 3) := by decide +kernel
theorem dX8_decode_23 : decode cX8_decode 23 = .ok (.iconst 1, 1) := by decide +kernel
theorem dX8_decode_24 : decode cX8_decode 24 = .ok (.goto 4, 3) := by decide +kernel
theorem dX8_decode_27 : decode cX8_decode 27 = .ok (.iconst 0, 1) := by decide +kernel
theorem dX8_decode_28 : decode cX8_decode 28 = .ok (.putfield 126, 3) := by decide +kernel
theorem dX8_decode_31 : decode cX8_decode 31 = .ok (.aload_n 0, 1) := by decide +kernel
theorem dX8_decode_32 : decode cX8_decode 32 = .ok (.aload_n 0, 1) := by decide +kernel
theorem dX8_decode_33 : decode cX8_decode 33 = .ok (.getfield 126, 3) := by decide +kernel
theorem dX8_decode_36 : decode cX8_decode 36 = .ok (.ifCond .eq 13, 3) := by decide +kernel
theorem dX8_decode_39 : decode cX8_decode 39 = .ok (.bipush 8, 2) := by decide +kernel
theorem dX8_decode_41 : decode cX8_decode 41 = .ok (.aload_n 0, 1) := by decide +kernel
theorem dX8_decode_42 : decode cX8_decode 42 = .ok (.getfield 123, 3) := by decide +kernel
theorem dX8_decode_45 : decode cX8_decode 45 = .ok (.imul, 1) := by decide +kernel
theorem dX8_decode_46 : decode cX8_decode 46 = .ok (.goto 27, 3) := by decide +kernel
theorem dX8_decode_49 : decode cX8_decode 49 = .ok (.aload_n 0, 1) := by decide +kernel
theorem dX8_decode_50 : decode cX8_decode 50 = .ok (.getfield 108, 3) := by decide +kernel
theorem dX8_decode_53 : decode cX8_decode 53 = .ok (.ifCond .eq 19, 3) := by decide +kernel
theorem dX8_decode_56 : decode cX8_decode 56 = .ok (.aload_n 0, 1) := by decide +kernel
theorem dX8_decode_57 : decode cX8_decode 57 = .ok (.getfield 72, 3) := by decide +kernel
theorem dX8_decode_60 : decode cX8_decode 60 = .ok (.bipush 7, 2) := by decide +kernel
theorem dX8_decode_62 : decode cX8_decode 62 = .ok (.iadd, 1) := by decide +kernel
theorem dX8_decode_63 : decode cX8_decode 63 = .ok (.bipush 8, 2) := by decide +kernel
theorem dX8_decode_65 : decode cX8_decode 65 = .ok (.idiv, 1) := by decide +kernel
theorem dX8_decode_66 : decode cX8_decode 66 = .ok (.bipush 8, 2) := by decide +kernel
theorem dX8_decode_68 : decode cX8_decode 68 = .ok (.imul, 1) := by decide +kernel
theorem dX8_decode_69 : decode cX8_decode 69 = .ok (.goto 4, 3) := by decide +kernel
theorem dX8_decode_72 : decode cX8_decode 72 = .ok (.iconst 0, 1) := by decide +kernel
theorem dX8_decode_73 : decode cX8_decode 73 = .ok (.putfield 129, 3) := by decide +kernel
theorem dX8_decode_76 : decode cX8_decode 76 = .ok (.aload_n 0, 1) := by decide +kernel
theorem dX8_decode_77 : decode cX8_decode 77 = .ok (.getfield 129, 3) := by decide +kernel
theorem dX8_decode_80 : decode cX8_decode 80 = .ok (.ifCond .ne 5, 3) := by decide +kernel
theorem dX8_decode_83 : decode cX8_decode 83 = .ok (.iconst (-1), 1) := by decide +kernel
theorem dX8_decode_84 : decode cX8_decode 84 = .ok (.ireturn, 1) := by decide +kernel
theorem dX8_decode_85 : decode cX8_decode 85 = .ok (.aload_n 0, 1) := by decide +kernel
theorem dX8_decode_86 : decode cX8_decode 86 = .ok (.getfield 59, 3) := by decide +kernel
theorem dX8_decode_89 : decode cX8_decode 89 = .ok (.iconst 2, 1) := by decide +kernel
theorem dX8_decode_90 : decode cX8_decode 90 = .ok (.if_icmp .ne 10, 3) := by decide +kernel
theorem dX8_decode_93 : decode cX8_decode 93 = .ok (.aload_n 0, 1) := by decide +kernel
theorem dX8_decode_94 : decode cX8_decode 94 = .ok (.invokevirtual 187, 3) := by decide +kernel
theorem dX8_decode_97 : decode cX8_decode 97 = .ok (.goto 7, 3) := by decide +kernel
theorem dX8_decode_100 : decode cX8_decode 100 = .ok (.aload_n 0, 1) := by decide +kernel
theorem dX8_decode_101 : decode cX8_decode 101 = .ok (.invokevirtual 190, 3) := by decide +kernel
theorem dX8_decode_104 : decode cX8_decode 104 = .ok (.istore_n 1, 1) := by decide +kernel
theorem dX8_decode_105 : decode cX8_decode 105 = .ok (.aload_n 0, 1) := by decide +kernel
theorem dX8_decode_106 : decode cX8_decode 106 = .ok (.iload_n 1, 1) := by decide +kernel
theorem dX8_decode_107 : decode cX8_decode 107 = .ok (.ifCond .ge 7, 3) := by decide +kernel
theorem dX8_decode_110 : decode cX8_decode 110 = .ok (.iconst 0, 1) := by decide +kernel
theorem dX8_decode_111 : decode cX8_decode 111 = .ok (.goto 4, 3) := by decide +kernel
theorem dX8_decode_114 : decode cX8_decode 114 = .ok (.iload_n 1, 1) := by decide +kernel
theorem dX8_decode_115 : decode cX8_decode 115 = .ok (.putfield 184, 3) := by decide +kernel
theorem dX8_decode_118 : decode cX8_decode 118 = .ok (.iload_n 1, 1) := by decide +kernel
theorem dX8_decode_119 : decode cX8_decode 119 = .ok (.ireturn, 1) := by decide +kernel
abbrev po_c_X8_decode (g : GG) (h0 : Nat) (xa : Nat) (xb : Nat) (xc : Nat) (xd : Nat) (xe : Nat) (xf : Nat) (xg : Nat) (xm : Nat) (xv : Nat) (xw : Nat) (xq : Nat) (xr : Nat) (xh : Nat) (xo : Nat) (xp : Nat) (vc : Int) (vk : Int) (vw : Int) (vg : Int) (vb : Int) (vi : Int) (ve : Int) (vf : Int) (vu : Int) (vl : Int) (vr : Int) (va : Int) (vt : Int) (vm : Int) (vd : Int) (vx : Int) (f : Nat → Int32) (fq : Nat → Int32) (fw : Nat → Int32) (fb : Nat → Int32) (fr : Nat → Int32) (fm : Nat → Int32) (fc : Nat → Int32) (fh : Nat → Int32) : Option Value → va_W → Prop := fun v8 w8 => ∃ r : Int, ∃ r2 : Int, ∃ m2 : Int, ∃ t2 : Int, ∃ a2 : Int, ∃ d2 : Int, ∃ x2 : Int, ∃ g2 : Nat → Int32, ∃ g3 : Nat → Int32, ∃ g4 : Nat → Int32, ∃ g5 : Nat → Int32, v8 = some (.int (iI r)) ∧ w8 = [(h0, ob 8 [.ref xa, .ref xb, .ref xc, .ref xd, .ref xe, .ref xf, .ref xg, .int (iI 0), .int (iI vk), .int (iI vw), .ref xm, .ref xv, .int (iI vg), .ref xw, .int (iI vb), .int (iI vi), .ref xq, .int (iI ve), .int (iI vf), .int (iI vu), .int (iI vl), .ref xr, .ref xh, .ref xo, .ref xp, .int (iI r2), .int (iI a2), .int (iI t2), .int (iI m2), .int (iI d2), .int (iI x2)]), (xw, aI g 72000 f), (xq, aI g 2000 fq), (xf, aI g 16384 fw), (xg, aI g 16384 fb), (xr, aZ g 75000 g2), (xo, aI g 75100 g3), (xp, aI g 25 g4), (xh, aZ g 25 g5)] ∧ (-3 ≤ r ∧ r ≤ 24) ∧ (0 ≤ r2 ∧ r2 ≤ 24) ∧ (mC g4)
set_option maxHeartbeats 4000000 in
set_option maxRecDepth 100000 in
theorem c_X8_decode (l : Launch) (g : GG) (h0 : Nat) (xa : Nat) (xb : Nat) (xc : Nat) (xd : Nat) (xe : Nat) (xf : Nat) (xg : Nat) (xm : Nat) (xv : Nat) (xw : Nat) (xq : Nat) (xr : Nat) (xh : Nat) (xo : Nat) (xp : Nat) (vc : Int) (vk : Int) (vw : Int) (vg : Int) (vb : Int) (vi : Int) (ve : Int) (vf : Int) (vu : Int) (vl : Int) (vr : Int) (va : Int) (vt : Int) (vm : Int) (vd : Int) (vx : Int) (f : Nat → Int32) (fq : Nat → Int32) (fw : Nat → Int32) (fb : Nat → Int32) (fr : Nat → Int32) (fm : Nat → Int32) (fc : Nat → Int32) (fh : Nat → Int32) (hp0 : 0 ≤ vk ∧ vk ≤ 2) (hp1 : 0 ≤ vl ∧ vl ≤ 1) (hp2 : 1 ≤ vw ∧ vw ≤ 3000) (hp3 : 0 ≤ ve ∧ ve ≤ 2000) (hp4 : 0 ≤ vi ∧ vi ≤ 1) (hp5 : 0 ≤ vb ∧ vb ≤ 507000) (hp6 : rR fw) (hp7 : rR fb) (hp8 : mC fc) (hp9 : -2147483648 ≤ vu ∧ vu < 2147483648) : Ct l g yX8_decode (wM yX8_decode cX8_decode 2 (some .int)) (rmD 6 0 0) [.ref h0] [(h0, ob 8 [.ref xa, .ref xb, .ref xc, .ref xd, .ref xe, .ref xf, .ref xg, .int (iI vc), .int (iI vk), .int (iI vw), .ref xm, .ref xv, .int (iI vg), .ref xw, .int (iI vb), .int (iI vi), .ref xq, .int (iI ve), .int (iI vf), .int (iI vu), .int (iI vl), .ref xr, .ref xh, .ref xo, .ref xp, .int (iI vr), .int (iI va), .int (iI vt), .int (iI vm), .int (iI vd), .int (iI vx)]), (xw, aI g 72000 f), (xq, aI g 2000 fq), (xf, aI g 16384 fw), (xg, aI g 16384 fb), (xr, aZ g 75000 fr), (xo, aI g 75100 fm), (xp, aI g 25 fc), (xh, aZ g 25 fh)] (po_c_X8_decode g h0 xa xb xc xd xe xf xg xm xv xw xq xr xh xo xp vc vk vw vg vb vi ve vf vu vl vr va vt vm vd vx f fq fw fb fr fm fc fh) := by
  refine Ct_of (by decide +kernel) (Nat.le_of_ble_eq_true rfl) ?_
  intro p9 e9 s9 m9 ag9 bl9 mt9 c9 A9 fx hr hnm
  refine v_aload_n fx 0 dX8_decode_0 rfl rfl ?_
  refine v_iconst fx dX8_decode_1 rfl ?_
  refine v_put fx 0 7 [(h0, ob 8 [.ref xa, .ref xb, .ref xc, .ref xd, .ref xe, .ref xf, .ref xg, .int (iI 0), .int (iI vk), .int (iI vw), .ref xm, .ref xv, .int (iI vg), .ref xw, .int (iI vb), .int (iI vi), .ref xq, .int (iI ve), .int (iI vf), .int (iI vu), .int (iI vl), .ref xr, .ref xh, .ref xo, .ref xp, .int (iI vr), .int (iI va), .int (iI vt), .int (iI vm), .int (iI vd), .int (iI vx)]), (xw, aI g 72000 f), (xq, aI g 2000 fq), (xf, aI g 16384 fw), (xg, aI g 16384 fb), (xr, aZ g 75000 fr), (xo, aI g 75100 fm), (xp, aI g 25 fc), (xh, aZ g 25 fh)] inX8 tyX8_ok nmX8 k1003 dX8_decode_2 rfl rfl (by decide) rfl rfl rfl rfl (nl rfl) rfl rfl ?_
  refine v_aload_n fx 0 dX8_decode_5 rfl rfl ?_
  refine v_iconst fx dX8_decode_6 rfl ?_
  refine v_put fx 0 25 [(h0, ob 8 [.ref xa, .ref xb, .ref xc, .ref xd, .ref xe, .ref xf, .ref xg, .int (iI 0), .int (iI vk), .int (iI vw), .ref xm, .ref xv, .int (iI vg), .ref xw, .int (iI vb), .int (iI vi), .ref xq, .int (iI ve), .int (iI vf), .int (iI vu), .int (iI vl), .ref xr, .ref xh, .ref xo, .ref xp, .int (iI 0), .int (iI va), .int (iI vt), .int (iI vm), .int (iI vd), .int (iI vx)]), (xw, aI g 72000 f), (xq, aI g 2000 fq), (xf, aI g 16384 fw), (xg, aI g 16384 fb), (xr, aZ g 75000 fr), (xo, aI g 75100 fm), (xp, aI g 25 fc), (xh, aZ g 25 fh)] inX8 tyX8_ok nmX8 k1021 dX8_decode_7 rfl rfl (by decide) rfl rfl rfl rfl (nl rfl) rfl rfl ?_
  refine v_aload_n fx 0 dX8_decode_10 rfl rfl ?_
  refine v_iconst fx dX8_decode_11 rfl ?_
  refine v_put fx 0 30 [(h0, ob 8 [.ref xa, .ref xb, .ref xc, .ref xd, .ref xe, .ref xf, .ref xg, .int (iI 0), .int (iI vk), .int (iI vw), .ref xm, .ref xv, .int (iI vg), .ref xw, .int (iI vb), .int (iI vi), .ref xq, .int (iI ve), .int (iI vf), .int (iI vu), .int (iI vl), .ref xr, .ref xh, .ref xo, .ref xp, .int (iI 0), .int (iI va), .int (iI vt), .int (iI vm), .int (iI vd), .int (iI 0)]), (xw, aI g 72000 f), (xq, aI g 2000 fq), (xf, aI g 16384 fw), (xg, aI g 16384 fb), (xr, aZ g 75000 fr), (xo, aI g 75100 fm), (xp, aI g 25 fc), (xh, aZ g 25 fh)] inX8 tyX8_ok nmX8 k1026 dX8_decode_12 rfl rfl (by decide) rfl rfl rfl rfl (nl rfl) rfl rfl ?_
  refine v_aload_n fx 0 dX8_decode_15 rfl rfl ?_
  refine v_aload_n fx 0 dX8_decode_16 rfl rfl ?_
  refine v_get fx 0 17 inX8 k1013 dX8_decode_17 rfl rfl (by decide) rfl rfl rfl ?_
  refine v_if_le fx 27 dX8_decode_20 (by decide) rfl (by omega) (fun h_1 => ?_) (fun h_1 => ?_)
  ·
    refine v_iconst fx dX8_decode_27 rfl ?_
    refine v_put fx 0 28 [(h0, ob 8 [.ref xa, .ref xb, .ref xc, .ref xd, .ref xe, .ref xf, .ref xg, .int (iI 0), .int (iI vk), .int (iI vw), .ref xm, .ref xv, .int (iI vg), .ref xw, .int (iI vb), .int (iI vi), .ref xq, .int (iI ve), .int (iI vf), .int (iI vu), .int (iI vl), .ref xr, .ref xh, .ref xo, .ref xp, .int (iI 0), .int (iI va), .int (iI vt), .int (iI 0), .int (iI vd), .int (iI 0)]), (xw, aI g 72000 f), (xq, aI g 2000 fq), (xf, aI g 16384 fw), (xg, aI g 16384 fb), (xr, aZ g 75000 fr), (xo, aI g 75100 fm), (xp, aI g 25 fc), (xh, aZ g 25 fh)] inX8 tyX8_ok nmX8 k1024 dX8_decode_28 rfl rfl (by decide) rfl rfl rfl rfl (nl rfl) rfl rfl ?_
    refine v_aload_n fx 0 dX8_decode_31 rfl rfl ?_
    refine v_aload_n fx 0 dX8_decode_32 rfl rfl ?_
    refine v_get fx 0 28 inX8 k1024 dX8_decode_33 rfl rfl (by decide) rfl rfl rfl ?_
    refine v_if_eq fx 49 dX8_decode_36 (by decide) rfl (by omega) (fun h_2 => ?_) (fun h0 => absurd h0 (by omega))
    refine v_aload_n fx 0 dX8_decode_49 rfl rfl ?_
    refine v_get fx 0 15 inX8 k1011 dX8_decode_50 rfl rfl (by decide) rfl rfl rfl ?_
    refine v_if_eq fx 72 dX8_decode_53 (by decide) rfl (by omega) (fun h_3 => ?_) (fun h_3 => ?_)
    ·
      refine v_iconst fx dX8_decode_72 rfl ?_
      refine v_put fx 0 27 [(h0, ob 8 [.ref xa, .ref xb, .ref xc, .ref xd, .ref xe, .ref xf, .ref xg, .int (iI 0), .int (iI vk), .int (iI vw), .ref xm, .ref xv, .int (iI vg), .ref xw, .int (iI vb), .int (iI vi), .ref xq, .int (iI ve), .int (iI vf), .int (iI vu), .int (iI vl), .ref xr, .ref xh, .ref xo, .ref xp, .int (iI 0), .int (iI va), .int (iI 0), .int (iI 0), .int (iI vd), .int (iI 0)]), (xw, aI g 72000 f), (xq, aI g 2000 fq), (xf, aI g 16384 fw), (xg, aI g 16384 fb), (xr, aZ g 75000 fr), (xo, aI g 75100 fm), (xp, aI g 25 fc), (xh, aZ g 25 fh)] inX8 tyX8_ok nmX8 k1023 dX8_decode_73 rfl rfl (by decide) rfl rfl rfl rfl (nl rfl) rfl rfl ?_
      refine v_aload_n fx 0 dX8_decode_76 rfl rfl ?_
      refine v_get fx 0 27 inX8 k1023 dX8_decode_77 rfl rfl (by decide) rfl rfl rfl ?_
      refine v_if_ne fx 85 dX8_decode_80 (by decide) rfl (by omega) (fun h0 => absurd h0 (by omega)) (fun h_4 => ?_)
      refine v_iconst fx dX8_decode_83 rfl ?_
      exact v_iret fx [(h0, ob 8 [.ref xa, .ref xb, .ref xc, .ref xd, .ref xe, .ref xf, .ref xg, .int (iI 0), .int (iI vk), .int (iI vw), .ref xm, .ref xv, .int (iI vg), .ref xw, .int (iI vb), .int (iI vi), .ref xq, .int (iI ve), .int (iI vf), .int (iI vu), .int (iI vl), .ref xr, .ref xh, .ref xo, .ref xp, .int (iI 0), .int (iI va), .int (iI 0), .int (iI 0), .int (iI vd), .int (iI 0)]), (xw, aI g 72000 f), (xq, aI g 2000 fq), (xf, aI g 16384 fw), (xg, aI g 16384 fb), (xr, aZ g 75000 fr), (xo, aI g 75100 fm), (xp, aI g 25 fc), (xh, aZ g 25 fh)] [0, 1, 2, 3, 4, 5, 6, 7, 8] hr dX8_decode_84 rfl rfl (nl rfl) (nl rfl) ⟨(-1), 0, 0, 0, va, vd, 0, fr, fm, fc, fh, rfl, rfl, (by first | omega | rfl | assumption), (by first | omega | rfl | assumption), (by exact hp8)⟩
    ·
      refine v_aload_n fx 0 dX8_decode_56 rfl rfl ?_
      refine v_get fx 0 14 inX8 k1010 dX8_decode_57 rfl rfl (by decide) rfl rfl rfl ?_
      refine v_bipush fx dX8_decode_60 (by decide +kernel) rfl ?_
      refine v_iadd fx (vb + 7) dX8_decode_62 (by rfl) rfl ?_
      refine v_bipush fx dX8_decode_63 (by decide +kernel) rfl ?_
      refine v_idiv fx (iI ((vb + 7) / 8)) dX8_decode_65 (by decide) (iI_div (by omega) 8 (by decide) (by decide)) rfl ?_
      refine v_bipush fx dX8_decode_66 (by decide +kernel) rfl ?_
      refine v_imul fx (((vb + 7) / 8) * 8) dX8_decode_68 (by rfl) rfl ?_
      refine v_goto fx 73 dX8_decode_69 (by decide) ?_
      refine v_put fx 0 27 [(h0, ob 8 [.ref xa, .ref xb, .ref xc, .ref xd, .ref xe, .ref xf, .ref xg, .int (iI 0), .int (iI vk), .int (iI vw), .ref xm, .ref xv, .int (iI vg), .ref xw, .int (iI vb), .int (iI vi), .ref xq, .int (iI ve), .int (iI vf), .int (iI vu), .int (iI vl), .ref xr, .ref xh, .ref xo, .ref xp, .int (iI 0), .int (iI va), .int (iI (((vb + 7) / 8) * 8)), .int (iI 0), .int (iI vd), .int (iI 0)]), (xw, aI g 72000 f), (xq, aI g 2000 fq), (xf, aI g 16384 fw), (xg, aI g 16384 fb), (xr, aZ g 75000 fr), (xo, aI g 75100 fm), (xp, aI g 25 fc), (xh, aZ g 25 fh)] inX8 tyX8_ok nmX8 k1023 dX8_decode_73 rfl rfl (by decide) rfl rfl rfl rfl (nl rfl) rfl rfl ?_
      refine v_aload_n fx 0 dX8_decode_76 rfl rfl ?_
      refine v_get fx 0 27 inX8 k1023 dX8_decode_77 rfl rfl (by decide) rfl rfl rfl ?_
      refine v_if_ne fx 85 dX8_decode_80 (by decide) rfl (by omega) (fun h_5 => ?_) (fun h_5 => ?_)
      ·
        refine v_aload_n fx 0 dX8_decode_85 rfl rfl ?_
        refine v_get fx 0 8 inX8 k1004 dX8_decode_86 rfl rfl (by decide) rfl rfl rfl ?_
        refine v_iconst fx dX8_decode_89 rfl ?_
        refine v_icmp_ne fx 100 dX8_decode_90 (by decide) rfl (by omega) (by omega) (fun h_6 => ?_) (fun h_6 => ?_)
        ·
          refine v_aload_n fx 0 dX8_decode_100 rfl rfl ?_
          refine v_callV (As := []) (rest := []) fx [0, 1, 2, 3, 4, 5, 6, 7, 8] [] [(h0, ob 8 [.ref xa, .ref xb, .ref xc, .ref xd, .ref xe, .ref xf, .ref xg, .int (iI 0), .int (iI vk), .int (iI vw), .ref xm, .ref xv, .int (iI vg), .ref xw, .int (iI vb), .int (iI vi), .ref xq, .int (iI ve), .int (iI vf), .int (iI vu), .int (iI vl), .ref xr, .ref xh, .ref xo, .ref xp, .int (iI 0), .int (iI va), .int (iI (((vb + 7) / 8) * 8)), .int (iI 0), .int (iI vd), .int (iI 0)]), (xw, aI g 72000 f), (xq, aI g 2000 fq), (xf, aI g 16384 fw), (xg, aI g 16384 fb), (xr, aZ g 75000 fr), (xo, aI g 75100 fm), (xp, aI g 25 fc), (xh, aZ g 25 fh)] [] 0 0 (c_X8_readMarked l g h0 xa xb xc xd xe xf xg xm xv xw xq xr xh xo xp 0 vk vw vg vb vi ve vf vu vl 0 va (((vb + 7) / 8) * 8) 0 vd 0 f fq fw fb fr fm fc fh (by first | exact fun _ => (by omega) | exact fun h => absurd rfl h) (by first | omega | decide | assumption) (by first | omega | decide | assumption) (by first | omega | decide | assumption) (by first | omega | decide | assumption) (by first | omega | decide | assumption) (by first | omega | decide | assumption) (by first | omega | decide | assumption) (by first | omega | decide | assumption) (by first | omega | decide | assumption) (by first | omega | decide | assumption)) dX8_decode_101 k1198 k1200 k42 k57 k1201 ykX8_readMarked rfl rfl rfl rfl rfl rfl rfl rfl (nl rfl) ⟨nl rfl, nl rfl⟩ ⟨(nl rfl), (nl rfl)⟩ rfl (fun v9 w9 hu => ?_)
          obtain ⟨r_7, a2_8, d2_9, x2_10, g2_11, g3_12, g4_13, g5_14, rfl, rfl, u_15, u_16⟩ := hu
          refine v_is (wn := [(h0, ob 8 [.ref xa, .ref xb, .ref xc, .ref xd, .ref xe, .ref xf, .ref xg, .int (iI 0), .int (iI vk), .int (iI vw), .ref xm, .ref xv, .int (iI vg), .ref xw, .int (iI vb), .int (iI vi), .ref xq, .int (iI ve), .int (iI vf), .int (iI vu), .int (iI vl), .ref xr, .ref xh, .ref xo, .ref xp, .int (iI 0), .int (iI a2_8), .int (iI (((vb + 7) / 8) * 8)), .int (iI 0), .int (iI d2_9), .int (iI x2_10)]), (xw, aI g 72000 f), (xq, aI g 2000 fq), (xf, aI g 16384 fw), (xg, aI g 16384 fb), (xr, aZ g 75000 g2_11), (xo, aI g 75100 g3_12), (xp, aI g 25 g4_13), (xh, aZ g 25 g5_14)]) (cn := 0) (sn := 0) (sn2 := [.int (iI r_7)]) rfl rfl rfl rfl ?_
          refine v_istore_n fx [(1, .int (iI r_7)), (0, .ref h0)] dX8_decode_104 (by decide) rfl rfl ?_
          refine v_aload_n fx 1 dX8_decode_105 rfl rfl ?_
          refine v_iload_n fx 0 dX8_decode_106 rfl rfl ?_
          refine v_if_ge fx 114 dX8_decode_107 (by decide) rfl (by omega) (fun h_17 => ?_) (fun h_17 => ?_)
          ·
            refine v_iload_n fx 0 dX8_decode_114 rfl rfl ?_
            refine v_put fx 0 25 [(h0, ob 8 [.ref xa, .ref xb, .ref xc, .ref xd, .ref xe, .ref xf, .ref xg, .int (iI 0), .int (iI vk), .int (iI vw), .ref xm, .ref xv, .int (iI vg), .ref xw, .int (iI vb), .int (iI vi), .ref xq, .int (iI ve), .int (iI vf), .int (iI vu), .int (iI vl), .ref xr, .ref xh, .ref xo, .ref xp, .int (iI r_7), .int (iI a2_8), .int (iI (((vb + 7) / 8) * 8)), .int (iI 0), .int (iI d2_9), .int (iI x2_10)]), (xw, aI g 72000 f), (xq, aI g 2000 fq), (xf, aI g 16384 fw), (xg, aI g 16384 fb), (xr, aZ g 75000 g2_11), (xo, aI g 75100 g3_12), (xp, aI g 25 g4_13), (xh, aZ g 25 g5_14)] inX8 tyX8_ok nmX8 k1021 dX8_decode_115 rfl rfl (by decide) rfl rfl rfl rfl (nl rfl) rfl rfl ?_
            refine v_iload_n fx 0 dX8_decode_118 rfl rfl ?_
            exact v_iret fx [(h0, ob 8 [.ref xa, .ref xb, .ref xc, .ref xd, .ref xe, .ref xf, .ref xg, .int (iI 0), .int (iI vk), .int (iI vw), .ref xm, .ref xv, .int (iI vg), .ref xw, .int (iI vb), .int (iI vi), .ref xq, .int (iI ve), .int (iI vf), .int (iI vu), .int (iI vl), .ref xr, .ref xh, .ref xo, .ref xp, .int (iI r_7), .int (iI a2_8), .int (iI (((vb + 7) / 8) * 8)), .int (iI 0), .int (iI d2_9), .int (iI x2_10)]), (xw, aI g 72000 f), (xq, aI g 2000 fq), (xf, aI g 16384 fw), (xg, aI g 16384 fb), (xr, aZ g 75000 g2_11), (xo, aI g 75100 g3_12), (xp, aI g 25 g4_13), (xh, aZ g 25 g5_14)] [0, 1, 2, 3, 4, 5, 6, 7, 8] hr dX8_decode_119 rfl rfl (nl rfl) (nl rfl) ⟨r_7, r_7, 0, (((vb + 7) / 8) * 8), a2_8, d2_9, x2_10, g2_11, g3_12, g4_13, g5_14, rfl, rfl, (by first | omega | rfl | assumption), (by first | omega | rfl | assumption), (by assumption)⟩
          ·
            refine v_iconst fx dX8_decode_110 rfl ?_
            refine v_goto fx 115 dX8_decode_111 (by decide) ?_
            refine v_put fx 0 25 [(h0, ob 8 [.ref xa, .ref xb, .ref xc, .ref xd, .ref xe, .ref xf, .ref xg, .int (iI 0), .int (iI vk), .int (iI vw), .ref xm, .ref xv, .int (iI vg), .ref xw, .int (iI vb), .int (iI vi), .ref xq, .int (iI ve), .int (iI vf), .int (iI vu), .int (iI vl), .ref xr, .ref xh, .ref xo, .ref xp, .int (iI 0), .int (iI a2_8), .int (iI (((vb + 7) / 8) * 8)), .int (iI 0), .int (iI d2_9), .int (iI x2_10)]), (xw, aI g 72000 f), (xq, aI g 2000 fq), (xf, aI g 16384 fw), (xg, aI g 16384 fb), (xr, aZ g 75000 g2_11), (xo, aI g 75100 g3_12), (xp, aI g 25 g4_13), (xh, aZ g 25 g5_14)] inX8 tyX8_ok nmX8 k1021 dX8_decode_115 rfl rfl (by decide) rfl rfl rfl rfl (nl rfl) rfl rfl ?_
            refine v_iload_n fx 0 dX8_decode_118 rfl rfl ?_
            exact v_iret fx [(h0, ob 8 [.ref xa, .ref xb, .ref xc, .ref xd, .ref xe, .ref xf, .ref xg, .int (iI 0), .int (iI vk), .int (iI vw), .ref xm, .ref xv, .int (iI vg), .ref xw, .int (iI vb), .int (iI vi), .ref xq, .int (iI ve), .int (iI vf), .int (iI vu), .int (iI vl), .ref xr, .ref xh, .ref xo, .ref xp, .int (iI 0), .int (iI a2_8), .int (iI (((vb + 7) / 8) * 8)), .int (iI 0), .int (iI d2_9), .int (iI x2_10)]), (xw, aI g 72000 f), (xq, aI g 2000 fq), (xf, aI g 16384 fw), (xg, aI g 16384 fb), (xr, aZ g 75000 g2_11), (xo, aI g 75100 g3_12), (xp, aI g 25 g4_13), (xh, aZ g 25 g5_14)] [0, 1, 2, 3, 4, 5, 6, 7, 8] hr dX8_decode_119 rfl rfl (nl rfl) (nl rfl) ⟨r_7, 0, 0, (((vb + 7) / 8) * 8), a2_8, d2_9, x2_10, g2_11, g3_12, g4_13, g5_14, rfl, rfl, (by first | omega | rfl | assumption), (by first | omega | rfl | assumption), (by assumption)⟩
        ·
          refine v_aload_n fx 0 dX8_decode_93 rfl rfl ?_
          refine v_callV (As := []) (rest := []) fx [0, 1, 2, 3, 4, 5, 6, 7, 8] [] [(h0, ob 8 [.ref xa, .ref xb, .ref xc, .ref xd, .ref xe, .ref xf, .ref xg, .int (iI 0), .int (iI vk), .int (iI vw), .ref xm, .ref xv, .int (iI vg), .ref xw, .int (iI vb), .int (iI vi), .ref xq, .int (iI ve), .int (iI vf), .int (iI vu), .int (iI vl), .ref xr, .ref xh, .ref xo, .ref xp, .int (iI 0), .int (iI va), .int (iI (((vb + 7) / 8) * 8)), .int (iI 0), .int (iI vd), .int (iI 0)]), (xw, aI g 72000 f), (xq, aI g 2000 fq), (xf, aI g 16384 fw), (xg, aI g 16384 fb), (xr, aZ g 75000 fr), (xo, aI g 75100 fm), (xp, aI g 25 fc), (xh, aZ g 25 fh)] [] 0 0 (c_X8_readUnmarked l g h0 xa xb xc xd xe xf xg xm xv xw xq xr xh xo xp 0 vk vw vg vb vi ve vf vu vl 0 va (((vb + 7) / 8) * 8) 0 vd 0 f fq fw fb fr fm fc fh (by first | exact fun _ => (by omega) | exact fun h => absurd rfl h) (by first | omega | decide | assumption) (by first | omega | decide | assumption) (by first | omega | decide | assumption) (by first | omega | decide | assumption) (by first | omega | decide | assumption) (by first | omega | decide | assumption) (by first | omega | decide | assumption) (by first | omega | decide | assumption) (by first | omega | decide | assumption)) dX8_decode_94 k1158 k1160 k32 k57 k1161 ykX8_readUnmarked rfl rfl rfl rfl rfl rfl rfl rfl (nl rfl) ⟨nl rfl, nl rfl⟩ ⟨(nl rfl), (nl rfl)⟩ rfl (fun v9 w9 hu => ?_)
          obtain ⟨r_18, a2_19, d2_20, x2_21, g2_22, g3_23, g4_24, g5_25, rfl, rfl, u_26, u_27⟩ := hu
          refine v_is (wn := [(h0, ob 8 [.ref xa, .ref xb, .ref xc, .ref xd, .ref xe, .ref xf, .ref xg, .int (iI 0), .int (iI vk), .int (iI vw), .ref xm, .ref xv, .int (iI vg), .ref xw, .int (iI vb), .int (iI vi), .ref xq, .int (iI ve), .int (iI vf), .int (iI vu), .int (iI vl), .ref xr, .ref xh, .ref xo, .ref xp, .int (iI 0), .int (iI a2_19), .int (iI (((vb + 7) / 8) * 8)), .int (iI 0), .int (iI d2_20), .int (iI x2_21)]), (xw, aI g 72000 f), (xq, aI g 2000 fq), (xf, aI g 16384 fw), (xg, aI g 16384 fb), (xr, aZ g 75000 g2_22), (xo, aI g 75100 g3_23), (xp, aI g 25 g4_24), (xh, aZ g 25 g5_25)]) (cn := 0) (sn := 0) (sn2 := [.int (iI r_18)]) rfl rfl rfl rfl ?_
          refine v_goto fx 104 dX8_decode_97 (by decide) ?_
          refine v_istore_n fx [(1, .int (iI r_18)), (0, .ref h0)] dX8_decode_104 (by decide) rfl rfl ?_
          refine v_aload_n fx 1 dX8_decode_105 rfl rfl ?_
          refine v_iload_n fx 0 dX8_decode_106 rfl rfl ?_
          refine v_if_ge fx 114 dX8_decode_107 (by decide) rfl (by omega) (fun h_28 => ?_) (fun h_28 => ?_)
          ·
            refine v_iload_n fx 0 dX8_decode_114 rfl rfl ?_
            refine v_put fx 0 25 [(h0, ob 8 [.ref xa, .ref xb, .ref xc, .ref xd, .ref xe, .ref xf, .ref xg, .int (iI 0), .int (iI vk), .int (iI vw), .ref xm, .ref xv, .int (iI vg), .ref xw, .int (iI vb), .int (iI vi), .ref xq, .int (iI ve), .int (iI vf), .int (iI vu), .int (iI vl), .ref xr, .ref xh, .ref xo, .ref xp, .int (iI r_18), .int (iI a2_19), .int (iI (((vb + 7) / 8) * 8)), .int (iI 0), .int (iI d2_20), .int (iI x2_21)]), (xw, aI g 72000 f), (xq, aI g 2000 fq), (xf, aI g 16384 fw), (xg, aI g 16384 fb), (xr, aZ g 75000 g2_22), (xo, aI g 75100 g3_23), (xp, aI g 25 g4_24), (xh, aZ g 25 g5_25)] inX8 tyX8_ok nmX8 k1021 dX8_decode_115 rfl rfl (by decide) rfl rfl rfl rfl (nl rfl) rfl rfl ?_
            refine v_iload_n fx 0 dX8_decode_118 rfl rfl ?_
            exact v_iret fx [(h0, ob 8 [.ref xa, .ref xb, .ref xc, .ref xd, .ref xe, .ref xf, .ref xg, .int (iI 0), .int (iI vk), .int (iI vw), .ref xm, .ref xv, .int (iI vg), .ref xw, .int (iI vb), .int (iI vi), .ref xq, .int (iI ve), .int (iI vf), .int (iI vu), .int (iI vl), .ref xr, .ref xh, .ref xo, .ref xp, .int (iI r_18), .int (iI a2_19), .int (iI (((vb + 7) / 8) * 8)), .int (iI 0), .int (iI d2_20), .int (iI x2_21)]), (xw, aI g 72000 f), (xq, aI g 2000 fq), (xf, aI g 16384 fw), (xg, aI g 16384 fb), (xr, aZ g 75000 g2_22), (xo, aI g 75100 g3_23), (xp, aI g 25 g4_24), (xh, aZ g 25 g5_25)] [0, 1, 2, 3, 4, 5, 6, 7, 8] hr dX8_decode_119 rfl rfl (nl rfl) (nl rfl) ⟨r_18, r_18, 0, (((vb + 7) / 8) * 8), a2_19, d2_20, x2_21, g2_22, g3_23, g4_24, g5_25, rfl, rfl, (by first | omega | rfl | assumption), (by first | omega | rfl | assumption), (by assumption)⟩
          ·
            refine v_iconst fx dX8_decode_110 rfl ?_
            refine v_goto fx 115 dX8_decode_111 (by decide) ?_
            refine v_put fx 0 25 [(h0, ob 8 [.ref xa, .ref xb, .ref xc, .ref xd, .ref xe, .ref xf, .ref xg, .int (iI 0), .int (iI vk), .int (iI vw), .ref xm, .ref xv, .int (iI vg), .ref xw, .int (iI vb), .int (iI vi), .ref xq, .int (iI ve), .int (iI vf), .int (iI vu), .int (iI vl), .ref xr, .ref xh, .ref xo, .ref xp, .int (iI 0), .int (iI a2_19), .int (iI (((vb + 7) / 8) * 8)), .int (iI 0), .int (iI d2_20), .int (iI x2_21)]), (xw, aI g 72000 f), (xq, aI g 2000 fq), (xf, aI g 16384 fw), (xg, aI g 16384 fb), (xr, aZ g 75000 g2_22), (xo, aI g 75100 g3_23), (xp, aI g 25 g4_24), (xh, aZ g 25 g5_25)] inX8 tyX8_ok nmX8 k1021 dX8_decode_115 rfl rfl (by decide) rfl rfl rfl rfl (nl rfl) rfl rfl ?_
            refine v_iload_n fx 0 dX8_decode_118 rfl rfl ?_
            exact v_iret fx [(h0, ob 8 [.ref xa, .ref xb, .ref xc, .ref xd, .ref xe, .ref xf, .ref xg, .int (iI 0), .int (iI vk), .int (iI vw), .ref xm, .ref xv, .int (iI vg), .ref xw, .int (iI vb), .int (iI vi), .ref xq, .int (iI ve), .int (iI vf), .int (iI vu), .int (iI vl), .ref xr, .ref xh, .ref xo, .ref xp, .int (iI 0), .int (iI a2_19), .int (iI (((vb + 7) / 8) * 8)), .int (iI 0), .int (iI d2_20), .int (iI x2_21)]), (xw, aI g 72000 f), (xq, aI g 2000 fq), (xf, aI g 16384 fw), (xg, aI g 16384 fb), (xr, aZ g 75000 g2_22), (xo, aI g 75100 g3_23), (xp, aI g 25 g4_24), (xh, aZ g 25 g5_25)] [0, 1, 2, 3, 4, 5, 6, 7, 8] hr dX8_decode_119 rfl rfl (nl rfl) (nl rfl) ⟨r_18, 0, 0, (((vb + 7) / 8) * 8), a2_19, d2_20, x2_21, g2_22, g3_23, g4_24, g5_25, rfl, rfl, (by first | omega | rfl | assumption), (by first | omega | rfl | assumption), (by assumption)⟩
      ·
        refine v_iconst fx dX8_decode_83 rfl ?_
        exact v_iret fx [(h0, ob 8 [.ref xa, .ref xb, .ref xc, .ref xd, .ref xe, .ref xf, .ref xg, .int (iI 0), .int (iI vk), .int (iI vw), .ref xm, .ref xv, .int (iI vg), .ref xw, .int (iI vb), .int (iI vi), .ref xq, .int (iI ve), .int (iI vf), .int (iI vu), .int (iI vl), .ref xr, .ref xh, .ref xo, .ref xp, .int (iI 0), .int (iI va), .int (iI (((vb + 7) / 8) * 8)), .int (iI 0), .int (iI vd), .int (iI 0)]), (xw, aI g 72000 f), (xq, aI g 2000 fq), (xf, aI g 16384 fw), (xg, aI g 16384 fb), (xr, aZ g 75000 fr), (xo, aI g 75100 fm), (xp, aI g 25 fc), (xh, aZ g 25 fh)] [0, 1, 2, 3, 4, 5, 6, 7, 8] hr dX8_decode_84 rfl rfl (nl rfl) (nl rfl) ⟨(-1), 0, 0, (((vb + 7) / 8) * 8), va, vd, 0, fr, fm, fc, fh, rfl, rfl, (by first | omega | rfl | assumption), (by first | omega | rfl | assumption), (by exact hp8)⟩
  ·
    refine v_iconst fx dX8_decode_23 rfl ?_
    refine v_goto fx 28 dX8_decode_24 (by decide) ?_
    refine v_put fx 0 28 [(h0, ob 8 [.ref xa, .ref xb, .ref xc, .ref xd, .ref xe, .ref xf, .ref xg, .int (iI 0), .int (iI vk), .int (iI vw), .ref xm, .ref xv, .int (iI vg), .ref xw, .int (iI vb), .int (iI vi), .ref xq, .int (iI ve), .int (iI vf), .int (iI vu), .int (iI vl), .ref xr, .ref xh, .ref xo, .ref xp, .int (iI 0), .int (iI va), .int (iI vt), .int (iI 1), .int (iI vd), .int (iI 0)]), (xw, aI g 72000 f), (xq, aI g 2000 fq), (xf, aI g 16384 fw), (xg, aI g 16384 fb), (xr, aZ g 75000 fr), (xo, aI g 75100 fm), (xp, aI g 25 fc), (xh, aZ g 25 fh)] inX8 tyX8_ok nmX8 k1024 dX8_decode_28 rfl rfl (by decide) rfl rfl rfl rfl (nl rfl) rfl rfl ?_
    refine v_aload_n fx 0 dX8_decode_31 rfl rfl ?_
    refine v_aload_n fx 0 dX8_decode_32 rfl rfl ?_
    refine v_get fx 0 28 inX8 k1024 dX8_decode_33 rfl rfl (by decide) rfl rfl rfl ?_
    refine v_if_eq fx 49 dX8_decode_36 (by decide) rfl (by omega) (fun h0 => absurd h0 (by omega)) (fun h_29 => ?_)
    refine v_bipush fx dX8_decode_39 (by decide +kernel) rfl ?_
    refine v_aload_n fx 0 dX8_decode_41 rfl rfl ?_
    refine v_get fx 0 17 inX8 k1013 dX8_decode_42 rfl rfl (by decide) rfl rfl rfl ?_
    refine v_imul fx (8 * ve) dX8_decode_45 (by rfl) rfl ?_
    refine v_goto fx 73 dX8_decode_46 (by decide) ?_
    refine v_put fx 0 27 [(h0, ob 8 [.ref xa, .ref xb, .ref xc, .ref xd, .ref xe, .ref xf, .ref xg, .int (iI 0), .int (iI vk), .int (iI vw), .ref xm, .ref xv, .int (iI vg), .ref xw, .int (iI vb), .int (iI vi), .ref xq, .int (iI ve), .int (iI vf), .int (iI vu), .int (iI vl), .ref xr, .ref xh, .ref xo, .ref xp, .int (iI 0), .int (iI va), .int (iI (8 * ve)), .int (iI 1), .int (iI vd), .int (iI 0)]), (xw, aI g 72000 f), (xq, aI g 2000 fq), (xf, aI g 16384 fw), (xg, aI g 16384 fb), (xr, aZ g 75000 fr), (xo, aI g 75100 fm), (xp, aI g 25 fc), (xh, aZ g 25 fh)] inX8 tyX8_ok nmX8 k1023 dX8_decode_73 rfl rfl (by decide) rfl rfl rfl rfl (nl rfl) rfl rfl ?_
    refine v_aload_n fx 0 dX8_decode_76 rfl rfl ?_
    refine v_get fx 0 27 inX8 k1023 dX8_decode_77 rfl rfl (by decide) rfl rfl rfl ?_
    refine v_if_ne fx 85 dX8_decode_80 (by decide) rfl (by omega) (fun h_30 => ?_) (fun h_30 => ?_)
    ·
      refine v_aload_n fx 0 dX8_decode_85 rfl rfl ?_
      refine v_get fx 0 8 inX8 k1004 dX8_decode_86 rfl rfl (by decide) rfl rfl rfl ?_
      refine v_iconst fx dX8_decode_89 rfl ?_
      refine v_icmp_ne fx 100 dX8_decode_90 (by decide) rfl (by omega) (by omega) (fun h_31 => ?_) (fun h_31 => ?_)
      ·
        refine v_aload_n fx 0 dX8_decode_100 rfl rfl ?_
        refine v_callV (As := []) (rest := []) fx [0, 1, 2, 3, 4, 5, 6, 7, 8] [] [(h0, ob 8 [.ref xa, .ref xb, .ref xc, .ref xd, .ref xe, .ref xf, .ref xg, .int (iI 0), .int (iI vk), .int (iI vw), .ref xm, .ref xv, .int (iI vg), .ref xw, .int (iI vb), .int (iI vi), .ref xq, .int (iI ve), .int (iI vf), .int (iI vu), .int (iI vl), .ref xr, .ref xh, .ref xo, .ref xp, .int (iI 0), .int (iI va), .int (iI (8 * ve)), .int (iI 1), .int (iI vd), .int (iI 0)]), (xw, aI g 72000 f), (xq, aI g 2000 fq), (xf, aI g 16384 fw), (xg, aI g 16384 fb), (xr, aZ g 75000 fr), (xo, aI g 75100 fm), (xp, aI g 25 fc), (xh, aZ g 25 fh)] [] 0 0 (c_X8_readMarked l g h0 xa xb xc xd xe xf xg xm xv xw xq xr xh xo xp 0 vk vw vg vb vi ve vf vu vl 0 va (8 * ve) 1 vd 0 f fq fw fb fr fm fc fh (by first | exact fun _ => (by omega) | exact fun h => absurd rfl h) (by first | omega | decide | assumption) (by first | omega | decide | assumption) (by first | omega | decide | assumption) (by first | omega | decide | assumption) (by first | omega | decide | assumption) (by first | omega | decide | assumption) (by first | omega | decide | assumption) (by first | omega | decide | assumption) (by first | omega | decide | assumption) (by first | omega | decide | assumption)) dX8_decode_101 k1198 k1200 k42 k57 k1201 ykX8_readMarked rfl rfl rfl rfl rfl rfl rfl rfl (nl rfl) ⟨nl rfl, nl rfl⟩ ⟨(nl rfl), (nl rfl)⟩ rfl (fun v9 w9 hu => ?_)
        obtain ⟨r_32, a2_33, d2_34, x2_35, g2_36, g3_37, g4_38, g5_39, rfl, rfl, u_40, u_41⟩ := hu
        refine v_is (wn := [(h0, ob 8 [.ref xa, .ref xb, .ref xc, .ref xd, .ref xe, .ref xf, .ref xg, .int (iI 0), .int (iI vk), .int (iI vw), .ref xm, .ref xv, .int (iI vg), .ref xw, .int (iI vb), .int (iI vi), .ref xq, .int (iI ve), .int (iI vf), .int (iI vu), .int (iI vl), .ref xr, .ref xh, .ref xo, .ref xp, .int (iI 0), .int (iI a2_33), .int (iI (8 * ve)), .int (iI 1), .int (iI d2_34), .int (iI x2_35)]), (xw, aI g 72000 f), (xq, aI g 2000 fq), (xf, aI g 16384 fw), (xg, aI g 16384 fb), (xr, aZ g 75000 g2_36), (xo, aI g 75100 g3_37), (xp, aI g 25 g4_38), (xh, aZ g 25 g5_39)]) (cn := 0) (sn := 0) (sn2 := [.int (iI r_32)]) rfl rfl rfl rfl ?_
        refine v_istore_n fx [(1, .int (iI r_32)), (0, .ref h0)] dX8_decode_104 (by decide) rfl rfl ?_
        refine v_aload_n fx 1 dX8_decode_105 rfl rfl ?_
        refine v_iload_n fx 0 dX8_decode_106 rfl rfl ?_
        refine v_if_ge fx 114 dX8_decode_107 (by decide) rfl (by omega) (fun h_42 => ?_) (fun h_42 => ?_)
        ·
          refine v_iload_n fx 0 dX8_decode_114 rfl rfl ?_
          refine v_put fx 0 25 [(h0, ob 8 [.ref xa, .ref xb, .ref xc, .ref xd, .ref xe, .ref xf, .ref xg, .int (iI 0), .int (iI vk), .int (iI vw), .ref xm, .ref xv, .int (iI vg), .ref xw, .int (iI vb), .int (iI vi), .ref xq, .int (iI ve), .int (iI vf), .int (iI vu), .int (iI vl), .ref xr, .ref xh, .ref xo, .ref xp, .int (iI r_32), .int (iI a2_33), .int (iI (8 * ve)), .int (iI 1), .int (iI d2_34), .int (iI x2_35)]), (xw, aI g 72000 f), (xq, aI g 2000 fq), (xf, aI g 16384 fw), (xg, aI g 16384 fb), (xr, aZ g 75000 g2_36), (xo, aI g 75100 g3_37), (xp, aI g 25 g4_38), (xh, aZ g 25 g5_39)] inX8 tyX8_ok nmX8 k1021 dX8_decode_115 rfl rfl (by decide) rfl rfl rfl rfl (nl rfl) rfl rfl ?_
          refine v_iload_n fx 0 dX8_decode_118 rfl rfl ?_
          exact v_iret fx [(h0, ob 8 [.ref xa, .ref xb, .ref xc, .ref xd, .ref xe, .ref xf, .ref xg, .int (iI 0), .int (iI vk), .int (iI vw), .ref xm, .ref xv, .int (iI vg), .ref xw, .int (iI vb), .int (iI vi), .ref xq, .int (iI ve), .int (iI vf), .int (iI vu), .int (iI vl), .ref xr, .ref xh, .ref xo, .ref xp, .int (iI r_32), .int (iI a2_33), .int (iI (8 * ve)), .int (iI 1), .int (iI d2_34), .int (iI x2_35)]), (xw, aI g 72000 f), (xq, aI g 2000 fq), (xf, aI g 16384 fw), (xg, aI g 16384 fb), (xr, aZ g 75000 g2_36), (xo, aI g 75100 g3_37), (xp, aI g 25 g4_38), (xh, aZ g 25 g5_39)] [0, 1, 2, 3, 4, 5, 6, 7, 8] hr dX8_decode_119 rfl rfl (nl rfl) (nl rfl) ⟨r_32, r_32, 1, (8 * ve), a2_33, d2_34, x2_35, g2_36, g3_37, g4_38, g5_39, rfl, rfl, (by first | omega | rfl | assumption), (by first | omega | rfl | assumption), (by assumption)⟩
        ·
          refine v_iconst fx dX8_decode_110 rfl ?_
          refine v_goto fx 115 dX8_decode_111 (by decide) ?_
          refine v_put fx 0 25 [(h0, ob 8 [.ref xa, .ref xb, .ref xc, .ref xd, .ref xe, .ref xf, .ref xg, .int (iI 0), .int (iI vk), .int (iI vw), .ref xm, .ref xv, .int (iI vg), .ref xw, .int (iI vb), .int (iI vi), .ref xq, .int (iI ve), .int (iI vf), .int (iI vu), .int (iI vl), .ref xr, .ref xh, .ref xo, .ref xp, .int (iI 0), .int (iI a2_33), .int (iI (8 * ve)), .int (iI 1), .int (iI d2_34), .int (iI x2_35)]), (xw, aI g 72000 f), (xq, aI g 2000 fq), (xf, aI g 16384 fw), (xg, aI g 16384 fb), (xr, aZ g 75000 g2_36), (xo, aI g 75100 g3_37), (xp, aI g 25 g4_38), (xh, aZ g 25 g5_39)] inX8 tyX8_ok nmX8 k1021 dX8_decode_115 rfl rfl (by decide) rfl rfl rfl rfl (nl rfl) rfl rfl ?_
          refine v_iload_n fx 0 dX8_decode_118 rfl rfl ?_
          exact v_iret fx [(h0, ob 8 [.ref xa, .ref xb, .ref xc, .ref xd, .ref xe, .ref xf, .ref xg, .int (iI 0), .int (iI vk), .int (iI vw), .ref xm, .ref xv, .int (iI vg), .ref xw, .int (iI vb), .int (iI vi), .ref xq, .int (iI ve), .int (iI vf), .int (iI vu), .int (iI vl), .ref xr, .ref xh, .ref xo, .ref xp, .int (iI 0), .int (iI a2_33), .int (iI (8 * ve)), .int (iI 1), .int (iI d2_34), .int (iI x2_35)]), (xw, aI g 72000 f), (xq, aI g 2000 fq), (xf, aI g 16384 fw), (xg, aI g 16384 fb), (xr, aZ g 75000 g2_36), (xo, aI g 75100 g3_37), (xp, aI g 25 g4_38), (xh, aZ g 25 g5_39)] [0, 1, 2, 3, 4, 5, 6, 7, 8] hr dX8_decode_119 rfl rfl (nl rfl) (nl rfl) ⟨r_32, 0, 1, (8 * ve), a2_33, d2_34, x2_35, g2_36, g3_37, g4_38, g5_39, rfl, rfl, (by first | omega | rfl | assumption), (by first | omega | rfl | assumption), (by assumption)⟩
      ·
        refine v_aload_n fx 0 dX8_decode_93 rfl rfl ?_
        refine v_callV (As := []) (rest := []) fx [0, 1, 2, 3, 4, 5, 6, 7, 8] [] [(h0, ob 8 [.ref xa, .ref xb, .ref xc, .ref xd, .ref xe, .ref xf, .ref xg, .int (iI 0), .int (iI vk), .int (iI vw), .ref xm, .ref xv, .int (iI vg), .ref xw, .int (iI vb), .int (iI vi), .ref xq, .int (iI ve), .int (iI vf), .int (iI vu), .int (iI vl), .ref xr, .ref xh, .ref xo, .ref xp, .int (iI 0), .int (iI va), .int (iI (8 * ve)), .int (iI 1), .int (iI vd), .int (iI 0)]), (xw, aI g 72000 f), (xq, aI g 2000 fq), (xf, aI g 16384 fw), (xg, aI g 16384 fb), (xr, aZ g 75000 fr), (xo, aI g 75100 fm), (xp, aI g 25 fc), (xh, aZ g 25 fh)] [] 0 0 (c_X8_readUnmarked l g h0 xa xb xc xd xe xf xg xm xv xw xq xr xh xo xp 0 vk vw vg vb vi ve vf vu vl 0 va (8 * ve) 1 vd 0 f fq fw fb fr fm fc fh (by first | exact fun _ => (by omega) | exact fun h => absurd rfl h) (by first | omega | decide | assumption) (by first | omega | decide | assumption) (by first | omega | decide | assumption) (by first | omega | decide | assumption) (by first | omega | decide | assumption) (by first | omega | decide | assumption) (by first | omega | decide | assumption) (by first | omega | decide | assumption) (by first | omega | decide | assumption)) dX8_decode_94 k1158 k1160 k32 k57 k1161 ykX8_readUnmarked rfl rfl rfl rfl rfl rfl rfl rfl (nl rfl) ⟨nl rfl, nl rfl⟩ ⟨(nl rfl), (nl rfl)⟩ rfl (fun v9 w9 hu => ?_)
        obtain ⟨r_43, a2_44, d2_45, x2_46, g2_47, g3_48, g4_49, g5_50, rfl, rfl, u_51, u_52⟩ := hu
        refine v_is (wn := [(h0, ob 8 [.ref xa, .ref xb, .ref xc, .ref xd, .ref xe, .ref xf, .ref xg, .int (iI 0), .int (iI vk), .int (iI vw), .ref xm, .ref xv, .int (iI vg), .ref xw, .int (iI vb), .int (iI vi), .ref xq, .int (iI ve), .int (iI vf), .int (iI vu), .int (iI vl), .ref xr, .ref xh, .ref xo, .ref xp, .int (iI 0), .int (iI a2_44), .int (iI (8 * ve)), .int (iI 1), .int (iI d2_45), .int (iI x2_46)]), (xw, aI g 72000 f), (xq, aI g 2000 fq), (xf, aI g 16384 fw), (xg, aI g 16384 fb), (xr, aZ g 75000 g2_47), (xo, aI g 75100 g3_48), (xp, aI g 25 g4_49), (xh, aZ g 25 g5_50)]) (cn := 0) (sn := 0) (sn2 := [.int (iI r_43)]) rfl rfl rfl rfl ?_
        refine v_goto fx 104 dX8_decode_97 (by decide) ?_
        refine v_istore_n fx [(1, .int (iI r_43)), (0, .ref h0)] dX8_decode_104 (by decide) rfl rfl ?_
        refine v_aload_n fx 1 dX8_decode_105 rfl rfl ?_
        refine v_iload_n fx 0 dX8_decode_106 rfl rfl ?_
        refine v_if_ge fx 114 dX8_decode_107 (by decide) rfl (by omega) (fun h_53 => ?_) (fun h_53 => ?_)
        ·
          refine v_iload_n fx 0 dX8_decode_114 rfl rfl ?_
          refine v_put fx 0 25 [(h0, ob 8 [.ref xa, .ref xb, .ref xc, .ref xd, .ref xe, .ref xf, .ref xg, .int (iI 0), .int (iI vk), .int (iI vw), .ref xm, .ref xv, .int (iI vg), .ref xw, .int (iI vb), .int (iI vi), .ref xq, .int (iI ve), .int (iI vf), .int (iI vu), .int (iI vl), .ref xr, .ref xh, .ref xo, .ref xp, .int (iI r_43), .int (iI a2_44), .int (iI (8 * ve)), .int (iI 1), .int (iI d2_45), .int (iI x2_46)]), (xw, aI g 72000 f), (xq, aI g 2000 fq), (xf, aI g 16384 fw), (xg, aI g 16384 fb), (xr, aZ g 75000 g2_47), (xo, aI g 75100 g3_48), (xp, aI g 25 g4_49), (xh, aZ g 25 g5_50)] inX8 tyX8_ok nmX8 k1021 dX8_decode_115 rfl rfl (by decide) rfl rfl rfl rfl (nl rfl) rfl rfl ?_
          refine v_iload_n fx 0 dX8_decode_118 rfl rfl ?_
          exact v_iret fx [(h0, ob 8 [.ref xa, .ref xb, .ref xc, .ref xd, .ref xe, .ref xf, .ref xg, .int (iI 0), .int (iI vk), .int (iI vw), .ref xm, .ref xv, .int (iI vg), .ref xw, .int (iI vb), .int (iI vi), .ref xq, .int (iI ve), .int (iI vf), .int (iI vu), .int (iI vl), .ref xr, .ref xh, .ref xo, .ref xp, .int (iI r_43), .int (iI a2_44), .int (iI (8 * ve)), .int (iI 1), .int (iI d2_45), .int (iI x2_46)]), (xw, aI g 72000 f), (xq, aI g 2000 fq), (xf, aI g 16384 fw), (xg, aI g 16384 fb), (xr, aZ g 75000 g2_47), (xo, aI g 75100 g3_48), (xp, aI g 25 g4_49), (xh, aZ g 25 g5_50)] [0, 1, 2, 3, 4, 5, 6, 7, 8] hr dX8_decode_119 rfl rfl (nl rfl) (nl rfl) ⟨r_43, r_43, 1, (8 * ve), a2_44, d2_45, x2_46, g2_47, g3_48, g4_49, g5_50, rfl, rfl, (by first | omega | rfl | assumption), (by first | omega | rfl | assumption), (by assumption)⟩
        ·
          refine v_iconst fx dX8_decode_110 rfl ?_
          refine v_goto fx 115 dX8_decode_111 (by decide) ?_
          refine v_put fx 0 25 [(h0, ob 8 [.ref xa, .ref xb, .ref xc, .ref xd, .ref xe, .ref xf, .ref xg, .int (iI 0), .int (iI vk), .int (iI vw), .ref xm, .ref xv, .int (iI vg), .ref xw, .int (iI vb), .int (iI vi), .ref xq, .int (iI ve), .int (iI vf), .int (iI vu), .int (iI vl), .ref xr, .ref xh, .ref xo, .ref xp, .int (iI 0), .int (iI a2_44), .int (iI (8 * ve)), .int (iI 1), .int (iI d2_45), .int (iI x2_46)]), (xw, aI g 72000 f), (xq, aI g 2000 fq), (xf, aI g 16384 fw), (xg, aI g 16384 fb), (xr, aZ g 75000 g2_47), (xo, aI g 75100 g3_48), (xp, aI g 25 g4_49), (xh, aZ g 25 g5_50)] inX8 tyX8_ok nmX8 k1021 dX8_decode_115 rfl rfl (by decide) rfl rfl rfl rfl (nl rfl) rfl rfl ?_
          refine v_iload_n fx 0 dX8_decode_118 rfl rfl ?_
          exact v_iret fx [(h0, ob 8 [.ref xa, .ref xb, .ref xc, .ref xd, .ref xe, .ref xf, .ref xg, .int (iI 0), .int (iI vk), .int (iI vw), .ref xm, .ref xv, .int (iI vg), .ref xw, .int (iI vb), .int (iI vi), .ref xq, .int (iI ve), .int (iI vf), .int (iI vu), .int (iI vl), .ref xr, .ref xh, .ref xo, .ref xp, .int (iI 0), .int (iI a2_44), .int (iI (8 * ve)), .int (iI 1), .int (iI d2_45), .int (iI x2_46)]), (xw, aI g 72000 f), (xq, aI g 2000 fq), (xf, aI g 16384 fw), (xg, aI g 16384 fb), (xr, aZ g 75000 g2_47), (xo, aI g 75100 g3_48), (xp, aI g 25 g4_49), (xh, aZ g 25 g5_50)] [0, 1, 2, 3, 4, 5, 6, 7, 8] hr dX8_decode_119 rfl rfl (nl rfl) (nl rfl) ⟨r_43, 0, 1, (8 * ve), a2_44, d2_45, x2_46, g2_47, g3_48, g4_49, g5_50, rfl, rfl, (by first | omega | rfl | assumption), (by first | omega | rfl | assumption), (by assumption)⟩
    ·
      refine v_iconst fx dX8_decode_83 rfl ?_
      exact v_iret fx [(h0, ob 8 [.ref xa, .ref xb, .ref xc, .ref xd, .ref xe, .ref xf, .ref xg, .int (iI 0), .int (iI vk), .int (iI vw), .ref xm, .ref xv, .int (iI vg), .ref xw, .int (iI vb), .int (iI vi), .ref xq, .int (iI ve), .int (iI vf), .int (iI vu), .int (iI vl), .ref xr, .ref xh, .ref xo, .ref xp, .int (iI 0), .int (iI va), .int (iI (8 * ve)), .int (iI 1), .int (iI vd), .int (iI 0)]), (xw, aI g 72000 f), (xq, aI g 2000 fq), (xf, aI g 16384 fw), (xg, aI g 16384 fb), (xr, aZ g 75000 fr), (xo, aI g 75100 fm), (xp, aI g 25 fc), (xh, aZ g 25 fh)] [0, 1, 2, 3, 4, 5, 6, 7, 8] hr dX8_decode_84 rfl rfl (nl rfl) (nl rfl) ⟨(-1), 0, 1, (8 * ve), va, vd, 0, fr, fm, fc, fh, rfl, rfl, (by first | omega | rfl | assumption), (by first | omega | rfl | assumption), (by exact hp8)⟩
theorem dX8_at_0 : decode cX8_at 0 = .ok (.iload_n 2, 1) := by decide +kernel
theorem dX8_at_1 : decode cX8_at 1 = .ok (.ifCond .lt 15, 3) := by decide +kernel
theorem dX8_at_4 : decode cX8_at 4 = .ok (.iload_n 2, 1) := by decide +kernel
theorem dX8_at_5 : decode cX8_at 5 = .ok (.aload_n 0, 1) := by decide +kernel
theorem dX8_at_6 : decode cX8_at 6 = .ok (.getfield 184, 3) := by decide +kernel
theorem dX8_at_9 : decode cX8_at 9 = .ok (.if_icmp .ge 7, 3) := by decide +kernel
theorem dX8_at_12 : decode cX8_at 12 = .ok (.iconst 1, 1) := by decide +kernel
theorem dX8_at_13 : decode cX8_at 13 = .ok (.goto 4, 3) := by decide +kernel
theorem dX8_at_16 : decode cX8_at 16 = .ok (.iconst 0, 1) := by decide +kernel
theorem dX8_at_17 : decode cX8_at 17 = .ok (.istore_n 3, 1) := by decide +kernel
theorem dX8_at_18 : decode cX8_at 18 = .ok (.aload_n 0, 1) := by decide +kernel
theorem dX8_at_19 : decode cX8_at 19 = .ok (.iload_n 3, 1) := by decide +kernel
theorem dX8_at_20 : decode cX8_at 20 = .ok (.ifCond .eq 19, 3) := by decide +kernel
theorem dX8_at_23 : decode cX8_at 23 = .ok (.iload_n 1, 1) := by decide +kernel
theorem dX8_at_24 : decode cX8_at 24 = .ok (.ifCond .lt 11, 3) := by decide +kernel
theorem dX8_at_27 : decode cX8_at 27 = .ok (.iload_n 1, 1) := by decide +kernel
theorem dX8_at_28 : decode cX8_at 28 = .ok (.aload_n 0, 1) := by decide +kernel
theorem dX8_at_29 : decode cX8_at 29 = .ok (.getfield 63, 3) := by decide +kernel
theorem dX8_at_32 : decode cX8_at 32 = .ok (.if_icmp .lt 7, 3) := by decide +kernel
theorem dX8_at_35 : decode cX8_at 35 = .ok (.iconst 1, 1) := by decide +kernel
theorem dX8_at_36 : decode cX8_at 36 = .ok (.goto 4, 3) := by decide +kernel
theorem dX8_at_39 : decode cX8_at 39 = .ok (.iconst 0, 1) := by decide +kernel
theorem dX8_at_40 : decode cX8_at 40 = .ok (.putfield 66, 3) := by decide +kernel
theorem dX8_at_43 : decode cX8_at 43 = .ok (.iload_n 3, 1) := by decide +kernel
theorem dX8_at_44 : decode cX8_at 44 = .ok (.ifCond .eq 29, 3) := by decide +kernel
theorem dX8_at_47 : decode cX8_at 47 = .ok (.aload_n 0, 1) := by decide +kernel
theorem dX8_at_48 : decode cX8_at 48 = .ok (.getfield 66, 3) := by decide +kernel
theorem dX8_at_51 : decode cX8_at 51 = .ok (.ifCond .ne 22, 3) := by decide +kernel
theorem dX8_at_54 : decode cX8_at 54 = .ok (.aload_n 0, 1) := by decide +kernel
theorem dX8_at_55 : decode cX8_at 55 = .ok (.getfield 46, 3) := by decide +kernel
theorem dX8_at_58 : decode cX8_at 58 = .ok (.sipush 3000, 3) := by decide +kernel
theorem dX8_at_61 : decode cX8_at 61 = .ok (.iload_n 2, 1) := by decide +kernel
theorem dX8_at_62 : decode cX8_at 62 = .ok (.imul, 1) := by decide +kernel
theorem dX8_at_63 : decode cX8_at 63 = .ok (.iload_n 1, 1) := by decide +kernel
theorem dX8_at_64 : decode cX8_at 64 = .ok (.iadd, 1) := by decide +kernel
theorem dX8_at_65 : decode cX8_at 65 = .ok (.baload, 1) := by decide +kernel
theorem dX8_at_66 : decode cX8_at 66 = .ok (.ifCond .eq 7, 3) := by decide +kernel
theorem dX8_at_69 : decode cX8_at 69 = .ok (.iconst 1, 1) := by decide +kernel
theorem dX8_at_70 : decode cX8_at 70 = .ok (.goto 4, 3) := by decide +kernel
theorem dX8_at_73 : decode cX8_at 73 = .ok (.iconst 0, 1) := by decide +kernel
theorem dX8_at_74 : decode cX8_at 74 = .ok (.ireturn, 1) := by decide +kernel
abbrev po_c_X8_at (g : GG) (h0 : Nat) (xa : Nat) (xb : Nat) (xc : Nat) (xd : Nat) (xe : Nat) (xf : Nat) (xg : Nat) (xm : Nat) (xv : Nat) (xw : Nat) (xq : Nat) (xr : Nat) (xh : Nat) (xo : Nat) (xp : Nat) (vc : Int) (vk : Int) (vw : Int) (vg : Int) (vb : Int) (vi : Int) (ve : Int) (vf : Int) (vu : Int) (vl : Int) (vr : Int) (va : Int) (vt : Int) (vm : Int) (vd : Int) (vx : Int) (fr : Nat → Int32) (x : Int) (y : Int) : Option Value → va_W → Prop := fun v8 w8 => ∃ r : Int, ∃ c2 : Int, v8 = some (.int (iI r)) ∧ w8 = [(h0, ob 8 [.ref xa, .ref xb, .ref xc, .ref xd, .ref xe, .ref xf, .ref xg, .int (iI c2), .int (iI vk), .int (iI vw), .ref xm, .ref xv, .int (iI vg), .ref xw, .int (iI vb), .int (iI vi), .ref xq, .int (iI ve), .int (iI vf), .int (iI vu), .int (iI vl), .ref xr, .ref xh, .ref xo, .ref xp, .int (iI vr), .int (iI va), .int (iI vt), .int (iI vm), .int (iI vd), .int (iI vx)]), (xr, aZ g 75000 fr)] ∧ (0 ≤ r ∧ r ≤ 1) ∧ (0 ≤ c2 ∧ c2 ≤ 1)
set_option maxHeartbeats 4000000 in
set_option maxRecDepth 100000 in
theorem c_X8_at (l : Launch) (g : GG) (h0 : Nat) (xa : Nat) (xb : Nat) (xc : Nat) (xd : Nat) (xe : Nat) (xf : Nat) (xg : Nat) (xm : Nat) (xv : Nat) (xw : Nat) (xq : Nat) (xr : Nat) (xh : Nat) (xo : Nat) (xp : Nat) (vc : Int) (vk : Int) (vw : Int) (vg : Int) (vb : Int) (vi : Int) (ve : Int) (vf : Int) (vu : Int) (vl : Int) (vr : Int) (va : Int) (vt : Int) (vm : Int) (vd : Int) (vx : Int) (fr : Nat → Int32) (x : Int) (y : Int) (hp0 : -2147483648 ≤ x ∧ x < 2147483648) (hp1 : -2147483648 ≤ y ∧ y < 2147483648) (hp2 : 0 ≤ vr ∧ vr ≤ 24) (hp3 : 1 ≤ vw ∧ vw ≤ 3000) : Ct l g yX8_at (wM yX8_at cX8_at 4 (some .boolean)) (rmD 0 0 0) [.ref h0, .int (iI x), .int (iI y)] [(h0, ob 8 [.ref xa, .ref xb, .ref xc, .ref xd, .ref xe, .ref xf, .ref xg, .int (iI vc), .int (iI vk), .int (iI vw), .ref xm, .ref xv, .int (iI vg), .ref xw, .int (iI vb), .int (iI vi), .ref xq, .int (iI ve), .int (iI vf), .int (iI vu), .int (iI vl), .ref xr, .ref xh, .ref xo, .ref xp, .int (iI vr), .int (iI va), .int (iI vt), .int (iI vm), .int (iI vd), .int (iI vx)]), (xr, aZ g 75000 fr)] (po_c_X8_at g h0 xa xb xc xd xe xf xg xm xv xw xq xr xh xo xp vc vk vw vg vb vi ve vf vu vl vr va vt vm vd vx fr x y) := by
  refine Ct_of (by decide +kernel) (Nat.le_of_ble_eq_true rfl) ?_
  intro p9 e9 s9 m9 ag9 bl9 mt9 c9 A9 fx hr hnm
  refine v_iload_n fx 2 dX8_at_0 rfl rfl ?_
  refine v_if_lt fx 16 dX8_at_1 (by decide) rfl (by omega) (fun h_1 => ?_) (fun h_1 => ?_)
  ·
    refine v_iconst fx dX8_at_16 rfl ?_
    refine v_istore_n fx [(3, .int (iI 0)), (0, .ref h0), (1, .int (iI x)), (2, .int (iI y))] dX8_at_17 (by decide) rfl rfl ?_
    refine v_aload_n fx 1 dX8_at_18 rfl rfl ?_
    refine v_iload_n fx 0 dX8_at_19 rfl rfl ?_
    refine v_if_eq fx 39 dX8_at_20 (by decide) rfl (by omega) (fun h_2 => ?_) (fun h0 => absurd h0 (by omega))
    refine v_iconst fx dX8_at_39 rfl ?_
    refine v_put fx 0 7 [(h0, ob 8 [.ref xa, .ref xb, .ref xc, .ref xd, .ref xe, .ref xf, .ref xg, .int (iI 0), .int (iI vk), .int (iI vw), .ref xm, .ref xv, .int (iI vg), .ref xw, .int (iI vb), .int (iI vi), .ref xq, .int (iI ve), .int (iI vf), .int (iI vu), .int (iI vl), .ref xr, .ref xh, .ref xo, .ref xp, .int (iI vr), .int (iI va), .int (iI vt), .int (iI vm), .int (iI vd), .int (iI vx)]), (xr, aZ g 75000 fr)] inX8 tyX8_ok nmX8 k1003 dX8_at_40 rfl rfl (by decide) rfl rfl rfl rfl (nl rfl) rfl rfl ?_
    refine v_iload_n fx 0 dX8_at_43 rfl rfl ?_
    refine v_if_eq fx 73 dX8_at_44 (by decide) rfl (by omega) (fun h_3 => ?_) (fun h0 => absurd h0 (by omega))
    refine v_iconst fx dX8_at_73 rfl ?_
    exact v_zret fx [(h0, ob 8 [.ref xa, .ref xb, .ref xc, .ref xd, .ref xe, .ref xf, .ref xg, .int (iI 0), .int (iI vk), .int (iI vw), .ref xm, .ref xv, .int (iI vg), .ref xw, .int (iI vb), .int (iI vi), .ref xq, .int (iI ve), .int (iI vf), .int (iI vu), .int (iI vl), .ref xr, .ref xh, .ref xo, .ref xp, .int (iI vr), .int (iI va), .int (iI vt), .int (iI vm), .int (iI vd), .int (iI vx)]), (xr, aZ g 75000 fr)] [0, 1] hr dX8_at_74 (by first | rfl | exact nar_z _ (by omega)) rfl rfl (nl rfl) (nl rfl) ⟨0, 0, rfl, rfl, (by first | omega | rfl | assumption), (by first | omega | rfl | assumption)⟩
  ·
    refine v_iload_n fx 2 dX8_at_4 rfl rfl ?_
    refine v_aload_n fx 0 dX8_at_5 rfl rfl ?_
    refine v_get fx 0 25 inX8 k1021 dX8_at_6 rfl rfl (by decide) rfl rfl rfl ?_
    refine v_icmp_ge fx 16 dX8_at_9 (by decide) rfl (by omega) (by omega) (fun h_4 => ?_) (fun h_4 => ?_)
    ·
      refine v_iconst fx dX8_at_16 rfl ?_
      refine v_istore_n fx [(3, .int (iI 0)), (0, .ref h0), (1, .int (iI x)), (2, .int (iI y))] dX8_at_17 (by decide) rfl rfl ?_
      refine v_aload_n fx 1 dX8_at_18 rfl rfl ?_
      refine v_iload_n fx 0 dX8_at_19 rfl rfl ?_
      refine v_if_eq fx 39 dX8_at_20 (by decide) rfl (by omega) (fun h_5 => ?_) (fun h0 => absurd h0 (by omega))
      refine v_iconst fx dX8_at_39 rfl ?_
      refine v_put fx 0 7 [(h0, ob 8 [.ref xa, .ref xb, .ref xc, .ref xd, .ref xe, .ref xf, .ref xg, .int (iI 0), .int (iI vk), .int (iI vw), .ref xm, .ref xv, .int (iI vg), .ref xw, .int (iI vb), .int (iI vi), .ref xq, .int (iI ve), .int (iI vf), .int (iI vu), .int (iI vl), .ref xr, .ref xh, .ref xo, .ref xp, .int (iI vr), .int (iI va), .int (iI vt), .int (iI vm), .int (iI vd), .int (iI vx)]), (xr, aZ g 75000 fr)] inX8 tyX8_ok nmX8 k1003 dX8_at_40 rfl rfl (by decide) rfl rfl rfl rfl (nl rfl) rfl rfl ?_
      refine v_iload_n fx 0 dX8_at_43 rfl rfl ?_
      refine v_if_eq fx 73 dX8_at_44 (by decide) rfl (by omega) (fun h_6 => ?_) (fun h0 => absurd h0 (by omega))
      refine v_iconst fx dX8_at_73 rfl ?_
      exact v_zret fx [(h0, ob 8 [.ref xa, .ref xb, .ref xc, .ref xd, .ref xe, .ref xf, .ref xg, .int (iI 0), .int (iI vk), .int (iI vw), .ref xm, .ref xv, .int (iI vg), .ref xw, .int (iI vb), .int (iI vi), .ref xq, .int (iI ve), .int (iI vf), .int (iI vu), .int (iI vl), .ref xr, .ref xh, .ref xo, .ref xp, .int (iI vr), .int (iI va), .int (iI vt), .int (iI vm), .int (iI vd), .int (iI vx)]), (xr, aZ g 75000 fr)] [0, 1] hr dX8_at_74 (by first | rfl | exact nar_z _ (by omega)) rfl rfl (nl rfl) (nl rfl) ⟨0, 0, rfl, rfl, (by first | omega | rfl | assumption), (by first | omega | rfl | assumption)⟩
    ·
      refine v_iconst fx dX8_at_12 rfl ?_
      refine v_goto fx 17 dX8_at_13 (by decide) ?_
      refine v_istore_n fx [(3, .int (iI 1)), (0, .ref h0), (1, .int (iI x)), (2, .int (iI y))] dX8_at_17 (by decide) rfl rfl ?_
      refine v_aload_n fx 1 dX8_at_18 rfl rfl ?_
      refine v_iload_n fx 0 dX8_at_19 rfl rfl ?_
      refine v_if_eq fx 39 dX8_at_20 (by decide) rfl (by omega) (fun h0 => absurd h0 (by omega)) (fun h_7 => ?_)
      refine v_iload_n fx 2 dX8_at_23 rfl rfl ?_
      refine v_if_lt fx 35 dX8_at_24 (by decide) rfl (by omega) (fun h_8 => ?_) (fun h_8 => ?_)
      ·
        refine v_iconst fx dX8_at_35 rfl ?_
        refine v_goto fx 40 dX8_at_36 (by decide) ?_
        refine v_put fx 0 7 [(h0, ob 8 [.ref xa, .ref xb, .ref xc, .ref xd, .ref xe, .ref xf, .ref xg, .int (iI 1), .int (iI vk), .int (iI vw), .ref xm, .ref xv, .int (iI vg), .ref xw, .int (iI vb), .int (iI vi), .ref xq, .int (iI ve), .int (iI vf), .int (iI vu), .int (iI vl), .ref xr, .ref xh, .ref xo, .ref xp, .int (iI vr), .int (iI va), .int (iI vt), .int (iI vm), .int (iI vd), .int (iI vx)]), (xr, aZ g 75000 fr)] inX8 tyX8_ok nmX8 k1003 dX8_at_40 rfl rfl (by decide) rfl rfl rfl rfl (nl rfl) rfl rfl ?_
        refine v_iload_n fx 0 dX8_at_43 rfl rfl ?_
        refine v_if_eq fx 73 dX8_at_44 (by decide) rfl (by omega) (fun h0 => absurd h0 (by omega)) (fun h_9 => ?_)
        refine v_aload_n fx 1 dX8_at_47 rfl rfl ?_
        refine v_get fx 0 7 inX8 k1003 dX8_at_48 rfl rfl (by decide) rfl rfl rfl ?_
        refine v_if_ne fx 73 dX8_at_51 (by decide) rfl (by omega) (fun h_10 => ?_) (fun h0 => absurd h0 (by omega))
        refine v_iconst fx dX8_at_73 rfl ?_
        exact v_zret fx [(h0, ob 8 [.ref xa, .ref xb, .ref xc, .ref xd, .ref xe, .ref xf, .ref xg, .int (iI 1), .int (iI vk), .int (iI vw), .ref xm, .ref xv, .int (iI vg), .ref xw, .int (iI vb), .int (iI vi), .ref xq, .int (iI ve), .int (iI vf), .int (iI vu), .int (iI vl), .ref xr, .ref xh, .ref xo, .ref xp, .int (iI vr), .int (iI va), .int (iI vt), .int (iI vm), .int (iI vd), .int (iI vx)]), (xr, aZ g 75000 fr)] [0, 1] hr dX8_at_74 (by first | rfl | exact nar_z _ (by omega)) rfl rfl (nl rfl) (nl rfl) ⟨0, 1, rfl, rfl, (by first | omega | rfl | assumption), (by first | omega | rfl | assumption)⟩
      ·
        refine v_iload_n fx 2 dX8_at_27 rfl rfl ?_
        refine v_aload_n fx 1 dX8_at_28 rfl rfl ?_
        refine v_get fx 0 9 inX8 k1005 dX8_at_29 rfl rfl (by decide) rfl rfl rfl ?_
        refine v_icmp_lt fx 39 dX8_at_32 (by decide) rfl (by omega) (by omega) (fun h_11 => ?_) (fun h_11 => ?_)
        ·
          refine v_iconst fx dX8_at_39 rfl ?_
          refine v_put fx 0 7 [(h0, ob 8 [.ref xa, .ref xb, .ref xc, .ref xd, .ref xe, .ref xf, .ref xg, .int (iI 0), .int (iI vk), .int (iI vw), .ref xm, .ref xv, .int (iI vg), .ref xw, .int (iI vb), .int (iI vi), .ref xq, .int (iI ve), .int (iI vf), .int (iI vu), .int (iI vl), .ref xr, .ref xh, .ref xo, .ref xp, .int (iI vr), .int (iI va), .int (iI vt), .int (iI vm), .int (iI vd), .int (iI vx)]), (xr, aZ g 75000 fr)] inX8 tyX8_ok nmX8 k1003 dX8_at_40 rfl rfl (by decide) rfl rfl rfl rfl (nl rfl) rfl rfl ?_
          refine v_iload_n fx 0 dX8_at_43 rfl rfl ?_
          refine v_if_eq fx 73 dX8_at_44 (by decide) rfl (by omega) (fun h0 => absurd h0 (by omega)) (fun h_12 => ?_)
          refine v_aload_n fx 1 dX8_at_47 rfl rfl ?_
          refine v_get fx 0 7 inX8 k1003 dX8_at_48 rfl rfl (by decide) rfl rfl rfl ?_
          refine v_if_ne fx 73 dX8_at_51 (by decide) rfl (by omega) (fun h0 => absurd h0 (by omega)) (fun h_13 => ?_)
          refine v_aload_n fx 1 dX8_at_54 rfl rfl ?_
          refine v_get fx 0 21 inX8 k1017 dX8_at_55 rfl rfl (by decide) rfl rfl rfl ?_
          refine v_sipush fx dX8_at_58 (by decide +kernel) rfl ?_
          refine v_iload_n fx 3 dX8_at_61 rfl rfl ?_
          refine v_imul fx (3000 * y) dX8_at_62 (by rfl) rfl ?_
          refine v_iload_n fx 2 dX8_at_63 rfl rfl ?_
          refine v_iadd fx ((3000 * y) + x) dX8_at_64 (by rfl) rfl ?_
          refine v_zald fx 1 dX8_at_65 rfl (by omega) (by omega) rfl ?_
          refine v_any (fun z_14 hz_14 ez_14 => ?_)
          refine v_if_eq fx 73 dX8_at_66 (by decide) rfl (by omega) (fun h_15 => ?_) (fun h_15 => ?_)
          ·
            refine v_iconst fx dX8_at_73 rfl ?_
            exact v_zret fx [(h0, ob 8 [.ref xa, .ref xb, .ref xc, .ref xd, .ref xe, .ref xf, .ref xg, .int (iI 0), .int (iI vk), .int (iI vw), .ref xm, .ref xv, .int (iI vg), .ref xw, .int (iI vb), .int (iI vi), .ref xq, .int (iI ve), .int (iI vf), .int (iI vu), .int (iI vl), .ref xr, .ref xh, .ref xo, .ref xp, .int (iI vr), .int (iI va), .int (iI vt), .int (iI vm), .int (iI vd), .int (iI vx)]), (xr, aZ g 75000 fr)] [0, 1] hr dX8_at_74 (by first | rfl | exact nar_z _ (by omega)) rfl rfl (nl rfl) (nl rfl) ⟨0, 0, rfl, rfl, (by first | omega | rfl | assumption), (by first | omega | rfl | assumption)⟩
          ·
            refine v_iconst fx dX8_at_69 rfl ?_
            refine v_goto fx 74 dX8_at_70 (by decide) ?_
            exact v_zret fx [(h0, ob 8 [.ref xa, .ref xb, .ref xc, .ref xd, .ref xe, .ref xf, .ref xg, .int (iI 0), .int (iI vk), .int (iI vw), .ref xm, .ref xv, .int (iI vg), .ref xw, .int (iI vb), .int (iI vi), .ref xq, .int (iI ve), .int (iI vf), .int (iI vu), .int (iI vl), .ref xr, .ref xh, .ref xo, .ref xp, .int (iI vr), .int (iI va), .int (iI vt), .int (iI vm), .int (iI vd), .int (iI vx)]), (xr, aZ g 75000 fr)] [0, 1] hr dX8_at_74 (by first | rfl | exact nar_z _ (by omega)) rfl rfl (nl rfl) (nl rfl) ⟨1, 0, rfl, rfl, (by first | omega | rfl | assumption), (by first | omega | rfl | assumption)⟩
        ·
          refine v_iconst fx dX8_at_35 rfl ?_
          refine v_goto fx 40 dX8_at_36 (by decide) ?_
          refine v_put fx 0 7 [(h0, ob 8 [.ref xa, .ref xb, .ref xc, .ref xd, .ref xe, .ref xf, .ref xg, .int (iI 1), .int (iI vk), .int (iI vw), .ref xm, .ref xv, .int (iI vg), .ref xw, .int (iI vb), .int (iI vi), .ref xq, .int (iI ve), .int (iI vf), .int (iI vu), .int (iI vl), .ref xr, .ref xh, .ref xo, .ref xp, .int (iI vr), .int (iI va), .int (iI vt), .int (iI vm), .int (iI vd), .int (iI vx)]), (xr, aZ g 75000 fr)] inX8 tyX8_ok nmX8 k1003 dX8_at_40 rfl rfl (by decide) rfl rfl rfl rfl (nl rfl) rfl rfl ?_
          refine v_iload_n fx 0 dX8_at_43 rfl rfl ?_
          refine v_if_eq fx 73 dX8_at_44 (by decide) rfl (by omega) (fun h0 => absurd h0 (by omega)) (fun h_16 => ?_)
          refine v_aload_n fx 1 dX8_at_47 rfl rfl ?_
          refine v_get fx 0 7 inX8 k1003 dX8_at_48 rfl rfl (by decide) rfl rfl rfl ?_
          refine v_if_ne fx 73 dX8_at_51 (by decide) rfl (by omega) (fun h_17 => ?_) (fun h0 => absurd h0 (by omega))
          refine v_iconst fx dX8_at_73 rfl ?_
          exact v_zret fx [(h0, ob 8 [.ref xa, .ref xb, .ref xc, .ref xd, .ref xe, .ref xf, .ref xg, .int (iI 1), .int (iI vk), .int (iI vw), .ref xm, .ref xv, .int (iI vg), .ref xw, .int (iI vb), .int (iI vi), .ref xq, .int (iI ve), .int (iI vf), .int (iI vu), .int (iI vl), .ref xr, .ref xh, .ref xo, .ref xp, .int (iI vr), .int (iI va), .int (iI vt), .int (iI vm), .int (iI vd), .int (iI vx)]), (xr, aZ g 75000 fr)] [0, 1] hr dX8_at_74 (by first | rfl | exact nar_z _ (by omega)) rfl rfl (nl rfl) (nl rfl) ⟨0, 1, rfl, rfl, (by first | omega | rfl | assumption), (by first | omega | rfl | assumption)⟩
theorem dX8_damaged_0 : decode cX8_damaged 0 = .ok (.aload_n 0, 1) := by decide +kernel
theorem dX8_damaged_1 : decode cX8_damaged 1 = .ok (.iconst 0, 1) := by decide +kernel
theorem dX8_damaged_2 : decode cX8_damaged 2 = .ok (.putfield 66, 3) := by decide +kernel
theorem dX8_damaged_5 : decode cX8_damaged 5 = .ok (.iload_n 1, 1) := by decide +kernel
theorem dX8_damaged_6 : decode cX8_damaged 6 = .ok (.ifCond .lt 24, 3) := by decide +kernel
theorem dX8_damaged_9 : decode cX8_damaged 9 = .ok (.iload_n 1, 1) := by decide +kernel
theorem dX8_damaged_10 : decode cX8_damaged 10 = .ok (.aload_n 0, 1) := by decide +kernel
theorem dX8_damaged_11 : decode cX8_damaged 11 = .ok (.getfield 184, 3) := by decide +kernel
theorem dX8_damaged_14 : decode cX8_damaged 14 = .ok (.if_icmp .ge 16, 3) := by decide +kernel
theorem dX8_damaged_17 : decode cX8_damaged 17 = .ok (.aload_n 0, 1) := by decide +kernel
theorem dX8_damaged_18 : decode cX8_damaged 18 = .ok (.getfield 49, 3) := by decide +kernel
theorem dX8_damaged_21 : decode cX8_damaged 21 = .ok (.iload_n 1, 1) := by decide +kernel
theorem dX8_damaged_22 : decode cX8_damaged 22 = .ok (.baload, 1) := by decide +kernel
theorem dX8_damaged_23 : decode cX8_damaged 23 = .ok (.ifCond .eq 7, 3) := by decide +kernel
theorem dX8_damaged_26 : decode cX8_damaged 26 = .ok (.iconst 1, 1) := by decide +kernel
theorem dX8_damaged_27 : decode cX8_damaged 27 = .ok (.goto 4, 3) := by decide +kernel
theorem dX8_damaged_30 : decode cX8_damaged 30 = .ok (.iconst 0, 1) := by decide +kernel
theorem dX8_damaged_31 : decode cX8_damaged 31 = .ok (.ireturn, 1) := by decide +kernel
abbrev po_c_X8_damaged (g : GG) (h0 : Nat) (xa : Nat) (xb : Nat) (xc : Nat) (xd : Nat) (xe : Nat) (xf : Nat) (xg : Nat) (xm : Nat) (xv : Nat) (xw : Nat) (xq : Nat) (xr : Nat) (xh : Nat) (xo : Nat) (xp : Nat) (vc : Int) (vk : Int) (vw : Int) (vg : Int) (vb : Int) (vi : Int) (ve : Int) (vf : Int) (vu : Int) (vl : Int) (vr : Int) (va : Int) (vt : Int) (vm : Int) (vd : Int) (vx : Int) (fh : Nat → Int32) (y : Int) : Option Value → va_W → Prop := fun v8 w8 => ∃ r : Int, v8 = some (.int (iI r)) ∧ w8 = [(h0, ob 8 [.ref xa, .ref xb, .ref xc, .ref xd, .ref xe, .ref xf, .ref xg, .int (iI 0), .int (iI vk), .int (iI vw), .ref xm, .ref xv, .int (iI vg), .ref xw, .int (iI vb), .int (iI vi), .ref xq, .int (iI ve), .int (iI vf), .int (iI vu), .int (iI vl), .ref xr, .ref xh, .ref xo, .ref xp, .int (iI vr), .int (iI va), .int (iI vt), .int (iI vm), .int (iI vd), .int (iI vx)]), (xh, aZ g 25 fh)] ∧ (0 ≤ r ∧ r ≤ 1)
set_option maxHeartbeats 4000000 in
set_option maxRecDepth 100000 in
theorem c_X8_damaged (l : Launch) (g : GG) (h0 : Nat) (xa : Nat) (xb : Nat) (xc : Nat) (xd : Nat) (xe : Nat) (xf : Nat) (xg : Nat) (xm : Nat) (xv : Nat) (xw : Nat) (xq : Nat) (xr : Nat) (xh : Nat) (xo : Nat) (xp : Nat) (vc : Int) (vk : Int) (vw : Int) (vg : Int) (vb : Int) (vi : Int) (ve : Int) (vf : Int) (vu : Int) (vl : Int) (vr : Int) (va : Int) (vt : Int) (vm : Int) (vd : Int) (vx : Int) (fh : Nat → Int32) (y : Int) (hp0 : -2147483648 ≤ y ∧ y < 2147483648) (hp1 : 0 ≤ vr ∧ vr ≤ 24) : Ct l g yX8_damaged (wM yX8_damaged cX8_damaged 2 (some .boolean)) (rmD 0 0 0) [.ref h0, .int (iI y)] [(h0, ob 8 [.ref xa, .ref xb, .ref xc, .ref xd, .ref xe, .ref xf, .ref xg, .int (iI vc), .int (iI vk), .int (iI vw), .ref xm, .ref xv, .int (iI vg), .ref xw, .int (iI vb), .int (iI vi), .ref xq, .int (iI ve), .int (iI vf), .int (iI vu), .int (iI vl), .ref xr, .ref xh, .ref xo, .ref xp, .int (iI vr), .int (iI va), .int (iI vt), .int (iI vm), .int (iI vd), .int (iI vx)]), (xh, aZ g 25 fh)] (po_c_X8_damaged g h0 xa xb xc xd xe xf xg xm xv xw xq xr xh xo xp vc vk vw vg vb vi ve vf vu vl vr va vt vm vd vx fh y) := by
  refine Ct_of (by decide +kernel) (Nat.le_of_ble_eq_true rfl) ?_
  intro p9 e9 s9 m9 ag9 bl9 mt9 c9 A9 fx hr hnm
  refine v_aload_n fx 0 dX8_damaged_0 rfl rfl ?_
  refine v_iconst fx dX8_damaged_1 rfl ?_
  refine v_put fx 0 7 [(h0, ob 8 [.ref xa, .ref xb, .ref xc, .ref xd, .ref xe, .ref xf, .ref xg, .int (iI 0), .int (iI vk), .int (iI vw), .ref xm, .ref xv, .int (iI vg), .ref xw, .int (iI vb), .int (iI vi), .ref xq, .int (iI ve), .int (iI vf), .int (iI vu), .int (iI vl), .ref xr, .ref xh, .ref xo, .ref xp, .int (iI vr), .int (iI va), .int (iI vt), .int (iI vm), .int (iI vd), .int (iI vx)]), (xh, aZ g 25 fh)] inX8 tyX8_ok nmX8 k1003 dX8_damaged_2 rfl rfl (by decide) rfl rfl rfl rfl (nl rfl) rfl rfl ?_
  refine v_iload_n fx 1 dX8_damaged_5 rfl rfl ?_
  refine v_if_lt fx 30 dX8_damaged_6 (by decide) rfl (by omega) (fun h_1 => ?_) (fun h_1 => ?_)
  ·
    refine v_iconst fx dX8_damaged_30 rfl ?_
    exact v_zret fx [(h0, ob 8 [.ref xa, .ref xb, .ref xc, .ref xd, .ref xe, .ref xf, .ref xg, .int (iI 0), .int (iI vk), .int (iI vw), .ref xm, .ref xv, .int (iI vg), .ref xw, .int (iI vb), .int (iI vi), .ref xq, .int (iI ve), .int (iI vf), .int (iI vu), .int (iI vl), .ref xr, .ref xh, .ref xo, .ref xp, .int (iI vr), .int (iI va), .int (iI vt), .int (iI vm), .int (iI vd), .int (iI vx)]), (xh, aZ g 25 fh)] [0, 1] hr dX8_damaged_31 (by first | rfl | exact nar_z _ (by omega)) rfl rfl (nl rfl) (nl rfl) ⟨0, rfl, rfl, (by first | omega | rfl | assumption)⟩
  ·
    refine v_iload_n fx 1 dX8_damaged_9 rfl rfl ?_
    refine v_aload_n fx 0 dX8_damaged_10 rfl rfl ?_
    refine v_get fx 0 25 inX8 k1021 dX8_damaged_11 rfl rfl (by decide) rfl rfl rfl ?_
    refine v_icmp_ge fx 30 dX8_damaged_14 (by decide) rfl (by omega) (by omega) (fun h_2 => ?_) (fun h_2 => ?_)
    ·
      refine v_iconst fx dX8_damaged_30 rfl ?_
      exact v_zret fx [(h0, ob 8 [.ref xa, .ref xb, .ref xc, .ref xd, .ref xe, .ref xf, .ref xg, .int (iI 0), .int (iI vk), .int (iI vw), .ref xm, .ref xv, .int (iI vg), .ref xw, .int (iI vb), .int (iI vi), .ref xq, .int (iI ve), .int (iI vf), .int (iI vu), .int (iI vl), .ref xr, .ref xh, .ref xo, .ref xp, .int (iI vr), .int (iI va), .int (iI vt), .int (iI vm), .int (iI vd), .int (iI vx)]), (xh, aZ g 25 fh)] [0, 1] hr dX8_damaged_31 (by first | rfl | exact nar_z _ (by omega)) rfl rfl (nl rfl) (nl rfl) ⟨0, rfl, rfl, (by first | omega | rfl | assumption)⟩
    ·
      refine v_aload_n fx 0 dX8_damaged_17 rfl rfl ?_
      refine v_get fx 0 22 inX8 k1018 dX8_damaged_18 rfl rfl (by decide) rfl rfl rfl ?_
      refine v_iload_n fx 1 dX8_damaged_21 rfl rfl ?_
      refine v_zald fx 1 dX8_damaged_22 rfl (by omega) (by omega) rfl ?_
      refine v_any (fun z_3 hz_3 ez_3 => ?_)
      refine v_if_eq fx 30 dX8_damaged_23 (by decide) rfl (by omega) (fun h_4 => ?_) (fun h_4 => ?_)
      ·
        refine v_iconst fx dX8_damaged_30 rfl ?_
        exact v_zret fx [(h0, ob 8 [.ref xa, .ref xb, .ref xc, .ref xd, .ref xe, .ref xf, .ref xg, .int (iI 0), .int (iI vk), .int (iI vw), .ref xm, .ref xv, .int (iI vg), .ref xw, .int (iI vb), .int (iI vi), .ref xq, .int (iI ve), .int (iI vf), .int (iI vu), .int (iI vl), .ref xr, .ref xh, .ref xo, .ref xp, .int (iI vr), .int (iI va), .int (iI vt), .int (iI vm), .int (iI vd), .int (iI vx)]), (xh, aZ g 25 fh)] [0, 1] hr dX8_damaged_31 (by first | rfl | exact nar_z _ (by omega)) rfl rfl (nl rfl) (nl rfl) ⟨0, rfl, rfl, (by first | omega | rfl | assumption)⟩
      ·
        refine v_iconst fx dX8_damaged_26 rfl ?_
        refine v_goto fx 31 dX8_damaged_27 (by decide) ?_
        exact v_zret fx [(h0, ob 8 [.ref xa, .ref xb, .ref xc, .ref xd, .ref xe, .ref xf, .ref xg, .int (iI 0), .int (iI vk), .int (iI vw), .ref xm, .ref xv, .int (iI vg), .ref xw, .int (iI vb), .int (iI vi), .ref xq, .int (iI ve), .int (iI vf), .int (iI vu), .int (iI vl), .ref xr, .ref xh, .ref xo, .ref xp, .int (iI vr), .int (iI va), .int (iI vt), .int (iI vm), .int (iI vd), .int (iI vx)]), (xh, aZ g 25 fh)] [0, 1] hr dX8_damaged_31 (by first | rfl | exact nar_z _ (by omega)) rfl rfl (nl rfl) (nl rfl) ⟨1, rfl, rfl, (by first | omega | rfl | assumption)⟩
theorem dX8_changes_0 : decode cX8_changes 0 = .ok (.aload_n 0, 1) := by decide +kernel
theorem dX8_changes_1 : decode cX8_changes 1 = .ok (.iconst 0, 1) := by decide +kernel
theorem dX8_changes_2 : decode cX8_changes 2 = .ok (.putfield 66, 3) := by decide +kernel
theorem dX8_changes_5 : decode cX8_changes 5 = .ok (.iload_n 1, 1) := by decide +kernel
theorem dX8_changes_6 : decode cX8_changes 6 = .ok (.ifCond .lt 15, 3) := by decide +kernel
theorem dX8_changes_9 : decode cX8_changes 9 = .ok (.iload_n 1, 1) := by decide +kernel
theorem dX8_changes_10 : decode cX8_changes 10 = .ok (.aload_n 0, 1) := by decide +kernel
theorem dX8_changes_11 : decode cX8_changes 11 = .ok (.getfield 184, 3) := by decide +kernel
theorem dX8_changes_14 : decode cX8_changes 14 = .ok (.if_icmp .ge 7, 3) := by decide +kernel
theorem dX8_changes_17 : decode cX8_changes 17 = .ok (.iload_n 2, 1) := by decide +kernel
theorem dX8_changes_18 : decode cX8_changes 18 = .ok (.ifCond .ge 5, 3) := by decide +kernel
theorem dX8_changes_21 : decode cX8_changes 21 = .ok (.iconst (-1), 1) := by decide +kernel
theorem dX8_changes_22 : decode cX8_changes 22 = .ok (.ireturn, 1) := by decide +kernel
theorem dX8_changes_23 : decode cX8_changes 23 = .ok (.aload_n 0, 1) := by decide +kernel
theorem dX8_changes_24 : decode cX8_changes 24 = .ok (.aload_n 0, 1) := by decide +kernel
theorem dX8_changes_25 : decode cX8_changes 25 = .ok (.getfield 46, 3) := by decide +kernel
theorem dX8_changes_28 : decode cX8_changes 28 = .ok (.sipush 3000, 3) := by decide +kernel
theorem dX8_changes_31 : decode cX8_changes 31 = .ok (.iload_n 1, 1) := by decide +kernel
theorem dX8_changes_32 : decode cX8_changes 32 = .ok (.imul, 1) := by decide +kernel
theorem dX8_changes_33 : decode cX8_changes 33 = .ok (.iconst (-1), 1) := by decide +kernel
theorem dX8_changes_34 : decode cX8_changes 34 = .ok (.invokevirtual 94, 3) := by decide +kernel
theorem dX8_changes_37 : decode cX8_changes 37 = .ok (.istore_n 3, 1) := by decide +kernel
theorem dX8_changes_38 : decode cX8_changes 38 = .ok (.iconst 0, 1) := by decide +kernel
theorem dX8_changes_39 : decode cX8_changes 39 = .ok (.istore 4, 2) := by decide +kernel
theorem dX8_changes_41 : decode cX8_changes 41 = .ok (.iload 4, 2) := by decide +kernel
theorem dX8_changes_43 : decode cX8_changes 43 = .ok (.iload_n 2, 1) := by decide +kernel
theorem dX8_changes_44 : decode cX8_changes 44 = .ok (.if_icmp .ge 32, 3) := by decide +kernel
theorem dX8_changes_47 : decode cX8_changes 47 = .ok (.iload_n 3, 1) := by decide +kernel
theorem dX8_changes_48 : decode cX8_changes 48 = .ok (.aload_n 0, 1) := by decide +kernel
theorem dX8_changes_49 : decode cX8_changes 49 = .ok (.getfield 63, 3) := by decide +kernel
theorem dX8_changes_52 : decode cX8_changes 52 = .ok (.if_icmp .ge 24, 3) := by decide +kernel
theorem dX8_changes_55 : decode cX8_changes 55 = .ok (.aload_n 0, 1) := by decide +kernel
theorem dX8_changes_56 : decode cX8_changes 56 = .ok (.aload_n 0, 1) := by decide +kernel
theorem dX8_changes_57 : decode cX8_changes 57 = .ok (.getfield 46, 3) := by decide +kernel
theorem dX8_changes_60 : decode cX8_changes 60 = .ok (.sipush 3000, 3) := by decide +kernel
theorem dX8_changes_63 : decode cX8_changes 63 = .ok (.iload_n 1, 1) := by decide +kernel
theorem dX8_changes_64 : decode cX8_changes 64 = .ok (.imul, 1) := by decide +kernel
theorem dX8_changes_65 : decode cX8_changes 65 = .ok (.iload_n 3, 1) := by decide +kernel
theorem dX8_changes_66 : decode cX8_changes 66 = .ok (.invokevirtual 94, 3) := by decide +kernel
theorem dX8_changes_69 : decode cX8_changes 69 = .ok (.istore_n 3, 1) := by decide +kernel
theorem dX8_changes_70 : decode cX8_changes 70 = .ok (.iinc 4 1, 3) := by decide +kernel
theorem dX8_changes_73 : decode cX8_changes 73 = .ok (.goto (-32), 3) := by decide +kernel
theorem dX8_changes_76 : decode cX8_changes 76 = .ok (.iload_n 3, 1) := by decide +kernel
theorem dX8_changes_77 : decode cX8_changes 77 = .ok (.aload_n 0, 1) := by decide +kernel
theorem dX8_changes_78 : decode cX8_changes 78 = .ok (.getfield 63, 3) := by decide +kernel
theorem dX8_changes_81 : decode cX8_changes 81 = .ok (.if_icmp .ge 7, 3) := by decide +kernel
theorem dX8_changes_84 : decode cX8_changes 84 = .ok (.iload_n 3, 1) := by decide +kernel
theorem dX8_changes_85 : decode cX8_changes 85 = .ok (.goto 4, 3) := by decide +kernel
theorem dX8_changes_88 : decode cX8_changes 88 = .ok (.iconst (-1), 1) := by decide +kernel
theorem dX8_changes_89 : decode cX8_changes 89 = .ok (.ireturn, 1) := by decide +kernel
abbrev po_c_X8_changes (g : GG) (h0 : Nat) (xa : Nat) (xb : Nat) (xc : Nat) (xd : Nat) (xe : Nat) (xf : Nat) (xg : Nat) (xm : Nat) (xv : Nat) (xw : Nat) (xq : Nat) (xr : Nat) (xh : Nat) (xo : Nat) (xp : Nat) (vc : Int) (vk : Int) (vw : Int) (vg : Int) (vb : Int) (vi : Int) (ve : Int) (vf : Int) (vu : Int) (vl : Int) (vr : Int) (va : Int) (vt : Int) (vm : Int) (vd : Int) (vx : Int) (fr : Nat → Int32) (y : Int) (k : Int) : Option Value → va_W → Prop := fun v8 w8 => ∃ r : Int, v8 = some (.int (iI r)) ∧ w8 = [(h0, ob 8 [.ref xa, .ref xb, .ref xc, .ref xd, .ref xe, .ref xf, .ref xg, .int (iI 0), .int (iI vk), .int (iI vw), .ref xm, .ref xv, .int (iI vg), .ref xw, .int (iI vb), .int (iI vi), .ref xq, .int (iI ve), .int (iI vf), .int (iI vu), .int (iI vl), .ref xr, .ref xh, .ref xo, .ref xp, .int (iI vr), .int (iI va), .int (iI vt), .int (iI vm), .int (iI vd), .int (iI vx)]), (xr, aZ g 75000 fr)] ∧ (-1 ≤ r ∧ r < 3000)
set_option maxHeartbeats 4000000 in
set_option maxRecDepth 100000 in
theorem c_X8_changes (l : Launch) (g : GG) (h0 : Nat) (xa : Nat) (xb : Nat) (xc : Nat) (xd : Nat) (xe : Nat) (xf : Nat) (xg : Nat) (xm : Nat) (xv : Nat) (xw : Nat) (xq : Nat) (xr : Nat) (xh : Nat) (xo : Nat) (xp : Nat) (vc : Int) (vk : Int) (vw : Int) (vg : Int) (vb : Int) (vi : Int) (ve : Int) (vf : Int) (vu : Int) (vl : Int) (vr : Int) (va : Int) (vt : Int) (vm : Int) (vd : Int) (vx : Int) (fr : Nat → Int32) (y : Int) (k : Int) (hp0 : -2147483648 ≤ y ∧ y < 2147483648) (hp1 : -2147483648 ≤ k ∧ k < 2147483648) (hp2 : 0 ≤ vr ∧ vr ≤ 24) (hp3 : 1 ≤ vw ∧ vw ≤ 3000) : Ct l g yX8_changes (wM yX8_changes cX8_changes 5 (some .int)) (rmD 1 0 0) [.ref h0, .int (iI y), .int (iI k)] [(h0, ob 8 [.ref xa, .ref xb, .ref xc, .ref xd, .ref xe, .ref xf, .ref xg, .int (iI vc), .int (iI vk), .int (iI vw), .ref xm, .ref xv, .int (iI vg), .ref xw, .int (iI vb), .int (iI vi), .ref xq, .int (iI ve), .int (iI vf), .int (iI vu), .int (iI vl), .ref xr, .ref xh, .ref xo, .ref xp, .int (iI vr), .int (iI va), .int (iI vt), .int (iI vm), .int (iI vd), .int (iI vx)]), (xr, aZ g 75000 fr)] (po_c_X8_changes g h0 xa xb xc xd xe xf xg xm xv xw xq xr xh xo xp vc vk vw vg vb vi ve vf vu vl vr va vt vm vd vx fr y k) := by
  refine Ct_of (by decide +kernel) (Nat.le_of_ble_eq_true rfl) ?_
  intro p9 e9 s9 m9 ag9 bl9 mt9 c9 A9 fx hr hnm
  refine v_aload_n fx 0 dX8_changes_0 rfl rfl ?_
  refine v_iconst fx dX8_changes_1 rfl ?_
  refine v_put fx 0 7 [(h0, ob 8 [.ref xa, .ref xb, .ref xc, .ref xd, .ref xe, .ref xf, .ref xg, .int (iI 0), .int (iI vk), .int (iI vw), .ref xm, .ref xv, .int (iI vg), .ref xw, .int (iI vb), .int (iI vi), .ref xq, .int (iI ve), .int (iI vf), .int (iI vu), .int (iI vl), .ref xr, .ref xh, .ref xo, .ref xp, .int (iI vr), .int (iI va), .int (iI vt), .int (iI vm), .int (iI vd), .int (iI vx)]), (xr, aZ g 75000 fr)] inX8 tyX8_ok nmX8 k1003 dX8_changes_2 rfl rfl (by decide) rfl rfl rfl rfl (nl rfl) rfl rfl ?_
  refine v_iload_n fx 1 dX8_changes_5 rfl rfl ?_
  refine v_if_lt fx 21 dX8_changes_6 (by decide) rfl (by omega) (fun h_1 => ?_) (fun h_1 => ?_)
  ·
    refine v_iconst fx dX8_changes_21 rfl ?_
    exact v_iret fx [(h0, ob 8 [.ref xa, .ref xb, .ref xc, .ref xd, .ref xe, .ref xf, .ref xg, .int (iI 0), .int (iI vk), .int (iI vw), .ref xm, .ref xv, .int (iI vg), .ref xw, .int (iI vb), .int (iI vi), .ref xq, .int (iI ve), .int (iI vf), .int (iI vu), .int (iI vl), .ref xr, .ref xh, .ref xo, .ref xp, .int (iI vr), .int (iI va), .int (iI vt), .int (iI vm), .int (iI vd), .int (iI vx)]), (xr, aZ g 75000 fr)] [0, 1] hr dX8_changes_22 rfl rfl (nl rfl) (nl rfl) ⟨(-1), rfl, rfl, (by first | omega | rfl | assumption)⟩
  ·
    refine v_iload_n fx 1 dX8_changes_9 rfl rfl ?_
    refine v_aload_n fx 0 dX8_changes_10 rfl rfl ?_
    refine v_get fx 0 25 inX8 k1021 dX8_changes_11 rfl rfl (by decide) rfl rfl rfl ?_
    refine v_icmp_ge fx 21 dX8_changes_14 (by decide) rfl (by omega) (by omega) (fun h_2 => ?_) (fun h_2 => ?_)
    ·
      refine v_iconst fx dX8_changes_21 rfl ?_
      exact v_iret fx [(h0, ob 8 [.ref xa, .ref xb, .ref xc, .ref xd, .ref xe, .ref xf, .ref xg, .int (iI 0), .int (iI vk), .int (iI vw), .ref xm, .ref xv, .int (iI vg), .ref xw, .int (iI vb), .int (iI vi), .ref xq, .int (iI ve), .int (iI vf), .int (iI vu), .int (iI vl), .ref xr, .ref xh, .ref xo, .ref xp, .int (iI vr), .int (iI va), .int (iI vt), .int (iI vm), .int (iI vd), .int (iI vx)]), (xr, aZ g 75000 fr)] [0, 1] hr dX8_changes_22 rfl rfl (nl rfl) (nl rfl) ⟨(-1), rfl, rfl, (by first | omega | rfl | assumption)⟩
    ·
      refine v_iload_n fx 2 dX8_changes_17 rfl rfl ?_
      refine v_if_ge fx 23 dX8_changes_18 (by decide) rfl (by omega) (fun h_3 => ?_) (fun h_3 => ?_)
      ·
        refine v_aload_n fx 0 dX8_changes_23 rfl rfl ?_
        refine v_aload_n fx 0 dX8_changes_24 rfl rfl ?_
        refine v_get fx 0 21 inX8 k1017 dX8_changes_25 rfl rfl (by decide) rfl rfl rfl ?_
        refine v_sipush fx dX8_changes_28 (by decide +kernel) rfl ?_
        refine v_iload_n fx 1 dX8_changes_31 rfl rfl ?_
        refine v_imul fx (3000 * y) dX8_changes_32 (by rfl) rfl ?_
        refine v_iconst fx dX8_changes_33 rfl ?_
        refine v_callV (As := [.ref xr, .int (iI (3000 * y)), .int (iI (-1))]) (rest := []) fx [0, 1] [] [(h0, ob 8 [.ref xa, .ref xb, .ref xc, .ref xd, .ref xe, .ref xf, .ref xg, .int (iI 0), .int (iI vk), .int (iI vw), .ref xm, .ref xv, .int (iI vg), .ref xw, .int (iI vb), .int (iI vi), .ref xq, .int (iI ve), .int (iI vf), .int (iI vu), .int (iI vl), .ref xr, .ref xh, .ref xo, .ref xp, .int (iI vr), .int (iI va), .int (iI vt), .int (iI vm), .int (iI vd), .int (iI vx)]), (xr, aZ g 75000 fr)] [] 3 0 (c_X8_change l g h0 xa xb xc xd xe xf xg xm xv xw xq xr xh xo xp 0 vk vw vg vb vi ve vf vu vl vr va vt vm vd vx xr 75000 fr (3000 * y) (-1) (by first | omega | decide | assumption) (by first | omega | decide | assumption) (by first | omega | decide | assumption)) dX8_changes_34 k1130 k1132 k28 k57 k1133 ykX8_change rfl rfl rfl rfl rfl rfl rfl rfl (nl rfl) ⟨nl rfl, nl rfl⟩ ⟨(nl rfl), (nl rfl)⟩ rfl (fun v9 w9 hu => ?_)
        obtain ⟨r_4, rfl, rfl, u_5⟩ := hu
        refine v_is (wn := [(h0, ob 8 [.ref xa, .ref xb, .ref xc, .ref xd, .ref xe, .ref xf, .ref xg, .int (iI 0), .int (iI vk), .int (iI vw), .ref xm, .ref xv, .int (iI vg), .ref xw, .int (iI vb), .int (iI vi), .ref xq, .int (iI ve), .int (iI vf), .int (iI vu), .int (iI vl), .ref xr, .ref xh, .ref xo, .ref xp, .int (iI vr), .int (iI va), .int (iI vt), .int (iI vm), .int (iI vd), .int (iI vx)]), (xr, aZ g 75000 fr)]) (cn := 0) (sn := 0) (sn2 := [.int (iI r_4)]) rfl rfl rfl rfl ?_
        refine v_istore_n fx [(3, .int (iI r_4)), (0, .ref h0), (1, .int (iI y)), (2, .int (iI k))] dX8_changes_37 (by decide) rfl rfl ?_
        refine v_iconst fx dX8_changes_38 rfl ?_
        refine v_istore fx [(4, .int (iI 0)), (3, .int (iI r_4)), (0, .ref h0), (1, .int (iI y)), (2, .int (iI k))] dX8_changes_39 (by decide) rfl rfl ?_
        have L41 : ∀ (N : Nat) (i : Int) (x : Int), (0 ≤ i ∧ i ≤ k) → (0 ≤ x ∧ x ≤ vw) → ((k - i).toNat) < N → V p9 l e9 (rmD 1 0 0) s9 m9 ag9 bl9 mt9 c9 5 g A9 (MQ bl9 (cQ g (po_c_X8_changes g h0 xa xb xc xd xe xf xg xm xv xw xq xr xh xo xp vc vk vw vg vb vi ve vf vu vl vr va vt vm vd vx fr y k) A9) ag9 s9 0 0 A9) [(h0, ob 8 [.ref xa, .ref xb, .ref xc, .ref xd, .ref xe, .ref xf, .ref xg, .int (iI 0), .int (iI vk), .int (iI vw), .ref xm, .ref xv, .int (iI vg), .ref xw, .int (iI vb), .int (iI vi), .ref xq, .int (iI ve), .int (iI vf), .int (iI vu), .int (iI vl), .ref xr, .ref xh, .ref xo, .ref xp, .int (iI vr), .int (iI va), .int (iI vt), .int (iI vm), .int (iI vd), .int (iI vx)]), (xr, aZ g 75000 fr)] 0 0 [(0, .ref h0), (1, .int (iI y)), (2, .int (iI k)), (3, .int (iI x)), (4, .int (iI i))] 41 [] := by
          intro N
          induction N with
          | zero => intro i x hi41_0 hi41_1 hN; exact absurd hN (Nat.not_lt_zero _)
          | succ N ihL41 =>
            intro i x hi41_0 hi41_1 hN41
            refine v_iload fx 4 dX8_changes_41 rfl rfl ?_
            refine v_iload_n fx 2 dX8_changes_43 rfl rfl ?_
            refine v_icmp_ge fx 76 dX8_changes_44 (by decide) rfl (by omega) (by omega) (fun h_6 => ?_) (fun h_6 => ?_)
            ·
              refine v_iload_n fx 3 dX8_changes_76 rfl rfl ?_
              refine v_aload_n fx 0 dX8_changes_77 rfl rfl ?_
              refine v_get fx 0 9 inX8 k1005 dX8_changes_78 rfl rfl (by decide) rfl rfl rfl ?_
              refine v_icmp_ge fx 88 dX8_changes_81 (by decide) rfl (by omega) (by omega) (fun h_7 => ?_) (fun h_7 => ?_)
              ·
                refine v_iconst fx dX8_changes_88 rfl ?_
                exact v_iret fx [(h0, ob 8 [.ref xa, .ref xb, .ref xc, .ref xd, .ref xe, .ref xf, .ref xg, .int (iI 0), .int (iI vk), .int (iI vw), .ref xm, .ref xv, .int (iI vg), .ref xw, .int (iI vb), .int (iI vi), .ref xq, .int (iI ve), .int (iI vf), .int (iI vu), .int (iI vl), .ref xr, .ref xh, .ref xo, .ref xp, .int (iI vr), .int (iI va), .int (iI vt), .int (iI vm), .int (iI vd), .int (iI vx)]), (xr, aZ g 75000 fr)] [0, 1] hr dX8_changes_89 rfl rfl (nl rfl) (nl rfl) ⟨(-1), rfl, rfl, (by first | omega | rfl | assumption)⟩
              ·
                refine v_iload_n fx 3 dX8_changes_84 rfl rfl ?_
                refine v_goto fx 89 dX8_changes_85 (by decide) ?_
                exact v_iret fx [(h0, ob 8 [.ref xa, .ref xb, .ref xc, .ref xd, .ref xe, .ref xf, .ref xg, .int (iI 0), .int (iI vk), .int (iI vw), .ref xm, .ref xv, .int (iI vg), .ref xw, .int (iI vb), .int (iI vi), .ref xq, .int (iI ve), .int (iI vf), .int (iI vu), .int (iI vl), .ref xr, .ref xh, .ref xo, .ref xp, .int (iI vr), .int (iI va), .int (iI vt), .int (iI vm), .int (iI vd), .int (iI vx)]), (xr, aZ g 75000 fr)] [0, 1] hr dX8_changes_89 rfl rfl (nl rfl) (nl rfl) ⟨x, rfl, rfl, (by first | omega | rfl | assumption)⟩
            ·
              refine v_iload_n fx 3 dX8_changes_47 rfl rfl ?_
              refine v_aload_n fx 0 dX8_changes_48 rfl rfl ?_
              refine v_get fx 0 9 inX8 k1005 dX8_changes_49 rfl rfl (by decide) rfl rfl rfl ?_
              refine v_icmp_ge fx 76 dX8_changes_52 (by decide) rfl (by omega) (by omega) (fun h_8 => ?_) (fun h_8 => ?_)
              ·
                refine v_iload_n fx 3 dX8_changes_76 rfl rfl ?_
                refine v_aload_n fx 0 dX8_changes_77 rfl rfl ?_
                refine v_get fx 0 9 inX8 k1005 dX8_changes_78 rfl rfl (by decide) rfl rfl rfl ?_
                refine v_icmp_ge fx 88 dX8_changes_81 (by decide) rfl (by omega) (by omega) (fun h_9 => ?_) (fun h_9 => ?_)
                ·
                  refine v_iconst fx dX8_changes_88 rfl ?_
                  exact v_iret fx [(h0, ob 8 [.ref xa, .ref xb, .ref xc, .ref xd, .ref xe, .ref xf, .ref xg, .int (iI 0), .int (iI vk), .int (iI vw), .ref xm, .ref xv, .int (iI vg), .ref xw, .int (iI vb), .int (iI vi), .ref xq, .int (iI ve), .int (iI vf), .int (iI vu), .int (iI vl), .ref xr, .ref xh, .ref xo, .ref xp, .int (iI vr), .int (iI va), .int (iI vt), .int (iI vm), .int (iI vd), .int (iI vx)]), (xr, aZ g 75000 fr)] [0, 1] hr dX8_changes_89 rfl rfl (nl rfl) (nl rfl) ⟨(-1), rfl, rfl, (by first | omega | rfl | assumption)⟩
                ·
                  refine v_iload_n fx 3 dX8_changes_84 rfl rfl ?_
                  refine v_goto fx 89 dX8_changes_85 (by decide) ?_
                  exact v_iret fx [(h0, ob 8 [.ref xa, .ref xb, .ref xc, .ref xd, .ref xe, .ref xf, .ref xg, .int (iI 0), .int (iI vk), .int (iI vw), .ref xm, .ref xv, .int (iI vg), .ref xw, .int (iI vb), .int (iI vi), .ref xq, .int (iI ve), .int (iI vf), .int (iI vu), .int (iI vl), .ref xr, .ref xh, .ref xo, .ref xp, .int (iI vr), .int (iI va), .int (iI vt), .int (iI vm), .int (iI vd), .int (iI vx)]), (xr, aZ g 75000 fr)] [0, 1] hr dX8_changes_89 rfl rfl (nl rfl) (nl rfl) ⟨x, rfl, rfl, (by first | omega | rfl | assumption)⟩
              ·
                refine v_aload_n fx 0 dX8_changes_55 rfl rfl ?_
                refine v_aload_n fx 0 dX8_changes_56 rfl rfl ?_
                refine v_get fx 0 21 inX8 k1017 dX8_changes_57 rfl rfl (by decide) rfl rfl rfl ?_
                refine v_sipush fx dX8_changes_60 (by decide +kernel) rfl ?_
                refine v_iload_n fx 1 dX8_changes_63 rfl rfl ?_
                refine v_imul fx (3000 * y) dX8_changes_64 (by rfl) rfl ?_
                refine v_iload_n fx 3 dX8_changes_65 rfl rfl ?_
                refine v_callV (As := [.ref xr, .int (iI (3000 * y)), .int (iI x)]) (rest := []) fx [0, 1] [] [(h0, ob 8 [.ref xa, .ref xb, .ref xc, .ref xd, .ref xe, .ref xf, .ref xg, .int (iI 0), .int (iI vk), .int (iI vw), .ref xm, .ref xv, .int (iI vg), .ref xw, .int (iI vb), .int (iI vi), .ref xq, .int (iI ve), .int (iI vf), .int (iI vu), .int (iI vl), .ref xr, .ref xh, .ref xo, .ref xp, .int (iI vr), .int (iI va), .int (iI vt), .int (iI vm), .int (iI vd), .int (iI vx)]), (xr, aZ g 75000 fr)] [] 3 0 (c_X8_change l g h0 xa xb xc xd xe xf xg xm xv xw xq xr xh xo xp 0 vk vw vg vb vi ve vf vu vl vr va vt vm vd vx xr 75000 fr (3000 * y) x (by first | omega | decide | assumption) (by first | omega | decide | assumption) (by first | omega | decide | assumption)) dX8_changes_66 k1130 k1132 k28 k57 k1133 ykX8_change rfl rfl rfl rfl rfl rfl rfl rfl (nl rfl) ⟨nl rfl, nl rfl⟩ ⟨(nl rfl), (nl rfl)⟩ rfl (fun v9 w9 hu => ?_)
                obtain ⟨r_10, rfl, rfl, u_11⟩ := hu
                refine v_is (wn := [(h0, ob 8 [.ref xa, .ref xb, .ref xc, .ref xd, .ref xe, .ref xf, .ref xg, .int (iI 0), .int (iI vk), .int (iI vw), .ref xm, .ref xv, .int (iI vg), .ref xw, .int (iI vb), .int (iI vi), .ref xq, .int (iI ve), .int (iI vf), .int (iI vu), .int (iI vl), .ref xr, .ref xh, .ref xo, .ref xp, .int (iI vr), .int (iI va), .int (iI vt), .int (iI vm), .int (iI vd), .int (iI vx)]), (xr, aZ g 75000 fr)]) (cn := 0) (sn := 0) (sn2 := [.int (iI r_10)]) rfl rfl rfl rfl ?_
                refine v_istore_n fx [(3, .int (iI r_10)), (0, .ref h0), (1, .int (iI y)), (2, .int (iI k)), (4, .int (iI i))] dX8_changes_69 (by decide) rfl rfl ?_
                refine v_iinc fx 4 (i + 1) [(4, .int (iI (i + 1))), (3, .int (iI r_10)), (0, .ref h0), (1, .int (iI y)), (2, .int (iI k))] dX8_changes_70 rfl (by omega) (by decide) rfl rfl ?_
                refine v_goto fx 41 dX8_changes_73 (by decide) ?_
                refine v_lv [2, 3, 4, 1, 0] [(0, .ref h0), (1, .int (iI y)), (2, .int (iI k)), (3, .int (iI r_10)), (4, .int (iI (i + 1)))] rfl ?_
                exact ihL41 (i + 1) r_10 (by omega) (by omega) (by omega)
        refine v_lv [2, 3, 4, 1, 0] [(0, .ref h0), (1, .int (iI y)), (2, .int (iI k)), (3, .int (iI r_4)), (4, .int (iI 0))] rfl ?_
        exact L41 _ 0 r_4 (by omega) (by omega) (Nat.lt_succ_self _)
      ·
        refine v_iconst fx dX8_changes_21 rfl ?_
        exact v_iret fx [(h0, ob 8 [.ref xa, .ref xb, .ref xc, .ref xd, .ref xe, .ref xf, .ref xg, .int (iI 0), .int (iI vk), .int (iI vw), .ref xm, .ref xv, .int (iI vg), .ref xw, .int (iI vb), .int (iI vi), .ref xq, .int (iI ve), .int (iI vf), .int (iI vu), .int (iI vl), .ref xr, .ref xh, .ref xo, .ref xp, .int (iI vr), .int (iI va), .int (iI vt), .int (iI vm), .int (iI vd), .int (iI vx)]), (xr, aZ g 75000 fr)] [0, 1] hr dX8_changes_22 rfl rfl (nl rfl) (nl rfl) ⟨(-1), rfl, rfl, (by first | omega | rfl | assumption)⟩
theorem dX8_mode_0 : decode cX8_mode 0 = .ok (.aload_n 0, 1) := by decide +kernel
theorem dX8_mode_1 : decode cX8_mode 1 = .ok (.iconst 0, 1) := by decide +kernel
theorem dX8_mode_2 : decode cX8_mode 2 = .ok (.putfield 66, 3) := by decide +kernel
theorem dX8_mode_5 : decode cX8_mode 5 = .ok (.iload_n 1, 1) := by decide +kernel
theorem dX8_mode_6 : decode cX8_mode 6 = .ok (.ifCond .lt 40, 3) := by decide +kernel
theorem dX8_mode_9 : decode cX8_mode 9 = .ok (.iload_n 1, 1) := by decide +kernel
theorem dX8_mode_10 : decode cX8_mode 10 = .ok (.aload_n 0, 1) := by decide +kernel
theorem dX8_mode_11 : decode cX8_mode 11 = .ok (.getfield 184, 3) := by decide +kernel
theorem dX8_mode_14 : decode cX8_mode 14 = .ok (.if_icmp .ge 32, 3) := by decide +kernel
theorem dX8_mode_17 : decode cX8_mode 17 = .ok (.iload_n 2, 1) := by decide +kernel
theorem dX8_mode_18 : decode cX8_mode 18 = .ok (.ifCond .lt 28, 3) := by decide +kernel
theorem dX8_mode_21 : decode cX8_mode 21 = .ok (.iload_n 2, 1) := by decide +kernel
theorem dX8_mode_22 : decode cX8_mode 22 = .ok (.aload_n 0, 1) := by decide +kernel
theorem dX8_mode_23 : decode cX8_mode 23 = .ok (.getfield 56, 3) := by decide +kernel
theorem dX8_mode_26 : decode cX8_mode 26 = .ok (.iload_n 1, 1) := by decide +kernel
theorem dX8_mode_27 : decode cX8_mode 27 = .ok (.iaload, 1) := by decide +kernel
theorem dX8_mode_28 : decode cX8_mode 28 = .ok (.if_icmp .ge 18, 3) := by decide +kernel
theorem dX8_mode_31 : decode cX8_mode 31 = .ok (.aload_n 0, 1) := by decide +kernel
theorem dX8_mode_32 : decode cX8_mode 32 = .ok (.getfield 53, 3) := by decide +kernel
theorem dX8_mode_35 : decode cX8_mode 35 = .ok (.sipush 3004, 3) := by decide +kernel
theorem dX8_mode_38 : decode cX8_mode 38 = .ok (.iload_n 1, 1) := by decide +kernel
theorem dX8_mode_39 : decode cX8_mode 39 = .ok (.imul, 1) := by decide +kernel
theorem dX8_mode_40 : decode cX8_mode 40 = .ok (.iload_n 2, 1) := by decide +kernel
theorem dX8_mode_41 : decode cX8_mode 41 = .ok (.iadd, 1) := by decide +kernel
theorem dX8_mode_42 : decode cX8_mode 42 = .ok (.iaload, 1) := by decide +kernel
theorem dX8_mode_43 : decode cX8_mode 43 = .ok (.goto 4, 3) := by decide +kernel
theorem dX8_mode_46 : decode cX8_mode 46 = .ok (.iconst (-1), 1) := by decide +kernel
theorem dX8_mode_47 : decode cX8_mode 47 = .ok (.ireturn, 1) := by decide +kernel
abbrev po_c_X8_mode (g : GG) (h0 : Nat) (xa : Nat) (xb : Nat) (xc : Nat) (xd : Nat) (xe : Nat) (xf : Nat) (xg : Nat) (xm : Nat) (xv : Nat) (xw : Nat) (xq : Nat) (xr : Nat) (xh : Nat) (xo : Nat) (xp : Nat) (vc : Int) (vk : Int) (vw : Int) (vg : Int) (vb : Int) (vi : Int) (ve : Int) (vf : Int) (vu : Int) (vl : Int) (vr : Int) (va : Int) (vt : Int) (vm : Int) (vd : Int) (vx : Int) (fm : Nat → Int32) (fc : Nat → Int32) (y : Int) (k : Int) : Option Value → va_W → Prop := fun v8 w8 => ∃ q : Int32, v8 = some (.int q) ∧ w8 = [(h0, ob 8 [.ref xa, .ref xb, .ref xc, .ref xd, .ref xe, .ref xf, .ref xg, .int (iI 0), .int (iI vk), .int (iI vw), .ref xm, .ref xv, .int (iI vg), .ref xw, .int (iI vb), .int (iI vi), .ref xq, .int (iI ve), .int (iI vf), .int (iI vu), .int (iI vl), .ref xr, .ref xh, .ref xo, .ref xp, .int (iI vr), .int (iI va), .int (iI vt), .int (iI vm), .int (iI vd), .int (iI vx)]), (xo, aI g 75100 fm), (xp, aI g 25 fc)]
set_option maxHeartbeats 4000000 in
set_option maxRecDepth 100000 in
theorem c_X8_mode (l : Launch) (g : GG) (h0 : Nat) (xa : Nat) (xb : Nat) (xc : Nat) (xd : Nat) (xe : Nat) (xf : Nat) (xg : Nat) (xm : Nat) (xv : Nat) (xw : Nat) (xq : Nat) (xr : Nat) (xh : Nat) (xo : Nat) (xp : Nat) (vc : Int) (vk : Int) (vw : Int) (vg : Int) (vb : Int) (vi : Int) (ve : Int) (vf : Int) (vu : Int) (vl : Int) (vr : Int) (va : Int) (vt : Int) (vm : Int) (vd : Int) (vx : Int) (fm : Nat → Int32) (fc : Nat → Int32) (y : Int) (k : Int) (hp0 : -2147483648 ≤ y ∧ y < 2147483648) (hp1 : -2147483648 ≤ k ∧ k < 2147483648) (hp2 : 0 ≤ vr ∧ vr ≤ 24) (hp3 : mC fc) : Ct l g yX8_mode (wM yX8_mode cX8_mode 3 (some .int)) (rmD 0 0 0) [.ref h0, .int (iI y), .int (iI k)] [(h0, ob 8 [.ref xa, .ref xb, .ref xc, .ref xd, .ref xe, .ref xf, .ref xg, .int (iI vc), .int (iI vk), .int (iI vw), .ref xm, .ref xv, .int (iI vg), .ref xw, .int (iI vb), .int (iI vi), .ref xq, .int (iI ve), .int (iI vf), .int (iI vu), .int (iI vl), .ref xr, .ref xh, .ref xo, .ref xp, .int (iI vr), .int (iI va), .int (iI vt), .int (iI vm), .int (iI vd), .int (iI vx)]), (xo, aI g 75100 fm), (xp, aI g 25 fc)] (po_c_X8_mode g h0 xa xb xc xd xe xf xg xm xv xw xq xr xh xo xp vc vk vw vg vb vi ve vf vu vl vr va vt vm vd vx fm fc y k) := by
  refine Ct_of (by decide +kernel) (Nat.le_of_ble_eq_true rfl) ?_
  intro p9 e9 s9 m9 ag9 bl9 mt9 c9 A9 fx hr hnm
  refine v_aload_n fx 0 dX8_mode_0 rfl rfl ?_
  refine v_iconst fx dX8_mode_1 rfl ?_
  refine v_put fx 0 7 [(h0, ob 8 [.ref xa, .ref xb, .ref xc, .ref xd, .ref xe, .ref xf, .ref xg, .int (iI 0), .int (iI vk), .int (iI vw), .ref xm, .ref xv, .int (iI vg), .ref xw, .int (iI vb), .int (iI vi), .ref xq, .int (iI ve), .int (iI vf), .int (iI vu), .int (iI vl), .ref xr, .ref xh, .ref xo, .ref xp, .int (iI vr), .int (iI va), .int (iI vt), .int (iI vm), .int (iI vd), .int (iI vx)]), (xo, aI g 75100 fm), (xp, aI g 25 fc)] inX8 tyX8_ok nmX8 k1003 dX8_mode_2 rfl rfl (by decide) rfl rfl rfl rfl (nl rfl) rfl rfl ?_
  refine v_iload_n fx 1 dX8_mode_5 rfl rfl ?_
  refine v_if_lt fx 46 dX8_mode_6 (by decide) rfl (by omega) (fun h_1 => ?_) (fun h_1 => ?_)
  ·
    refine v_iconst fx dX8_mode_46 rfl ?_
    exact v_iret fx [(h0, ob 8 [.ref xa, .ref xb, .ref xc, .ref xd, .ref xe, .ref xf, .ref xg, .int (iI 0), .int (iI vk), .int (iI vw), .ref xm, .ref xv, .int (iI vg), .ref xw, .int (iI vb), .int (iI vi), .ref xq, .int (iI ve), .int (iI vf), .int (iI vu), .int (iI vl), .ref xr, .ref xh, .ref xo, .ref xp, .int (iI vr), .int (iI va), .int (iI vt), .int (iI vm), .int (iI vd), .int (iI vx)]), (xo, aI g 75100 fm), (xp, aI g 25 fc)] [0, 1, 2] hr dX8_mode_47 rfl rfl (nl rfl) (nl rfl) ⟨(iI (-1)), rfl, rfl⟩
  ·
    refine v_iload_n fx 1 dX8_mode_9 rfl rfl ?_
    refine v_aload_n fx 0 dX8_mode_10 rfl rfl ?_
    refine v_get fx 0 25 inX8 k1021 dX8_mode_11 rfl rfl (by decide) rfl rfl rfl ?_
    refine v_icmp_ge fx 46 dX8_mode_14 (by decide) rfl (by omega) (by omega) (fun h_2 => ?_) (fun h_2 => ?_)
    ·
      refine v_iconst fx dX8_mode_46 rfl ?_
      exact v_iret fx [(h0, ob 8 [.ref xa, .ref xb, .ref xc, .ref xd, .ref xe, .ref xf, .ref xg, .int (iI 0), .int (iI vk), .int (iI vw), .ref xm, .ref xv, .int (iI vg), .ref xw, .int (iI vb), .int (iI vi), .ref xq, .int (iI ve), .int (iI vf), .int (iI vu), .int (iI vl), .ref xr, .ref xh, .ref xo, .ref xp, .int (iI vr), .int (iI va), .int (iI vt), .int (iI vm), .int (iI vd), .int (iI vx)]), (xo, aI g 75100 fm), (xp, aI g 25 fc)] [0, 1, 2] hr dX8_mode_47 rfl rfl (nl rfl) (nl rfl) ⟨(iI (-1)), rfl, rfl⟩
    ·
      refine v_iload_n fx 2 dX8_mode_17 rfl rfl ?_
      refine v_if_lt fx 46 dX8_mode_18 (by decide) rfl (by omega) (fun h_3 => ?_) (fun h_3 => ?_)
      ·
        refine v_iconst fx dX8_mode_46 rfl ?_
        exact v_iret fx [(h0, ob 8 [.ref xa, .ref xb, .ref xc, .ref xd, .ref xe, .ref xf, .ref xg, .int (iI 0), .int (iI vk), .int (iI vw), .ref xm, .ref xv, .int (iI vg), .ref xw, .int (iI vb), .int (iI vi), .ref xq, .int (iI ve), .int (iI vf), .int (iI vu), .int (iI vl), .ref xr, .ref xh, .ref xo, .ref xp, .int (iI vr), .int (iI va), .int (iI vt), .int (iI vm), .int (iI vd), .int (iI vx)]), (xo, aI g 75100 fm), (xp, aI g 25 fc)] [0, 1, 2] hr dX8_mode_47 rfl rfl (nl rfl) (nl rfl) ⟨(iI (-1)), rfl, rfl⟩
      ·
        refine v_iload_n fx 2 dX8_mode_21 rfl rfl ?_
        refine v_aload_n fx 0 dX8_mode_22 rfl rfl ?_
        refine v_get fx 0 24 inX8 k1020 dX8_mode_23 rfl rfl (by decide) rfl rfl rfl ?_
        refine v_iload_n fx 1 dX8_mode_26 rfl rfl ?_
        refine v_iald fx 2 dX8_mode_27 rfl (by omega) (by omega) rfl ?_
        refine v_any (fun z_4 hz_4 ez_4 => ?_)
        have hm1 := mC_at hp3 ez_4 hz_4
        refine v_icmp_ge fx 46 dX8_mode_28 (by decide) rfl (by omega) (by omega) (fun h_5 => ?_) (fun h_5 => ?_)
        ·
          refine v_iconst fx dX8_mode_46 rfl ?_
          exact v_iret fx [(h0, ob 8 [.ref xa, .ref xb, .ref xc, .ref xd, .ref xe, .ref xf, .ref xg, .int (iI 0), .int (iI vk), .int (iI vw), .ref xm, .ref xv, .int (iI vg), .ref xw, .int (iI vb), .int (iI vi), .ref xq, .int (iI ve), .int (iI vf), .int (iI vu), .int (iI vl), .ref xr, .ref xh, .ref xo, .ref xp, .int (iI vr), .int (iI va), .int (iI vt), .int (iI vm), .int (iI vd), .int (iI vx)]), (xo, aI g 75100 fm), (xp, aI g 25 fc)] [0, 1, 2] hr dX8_mode_47 rfl rfl (nl rfl) (nl rfl) ⟨(iI (-1)), rfl, rfl⟩
        ·
          refine v_aload_n fx 0 dX8_mode_31 rfl rfl ?_
          refine v_get fx 0 23 inX8 k1019 dX8_mode_32 rfl rfl (by decide) rfl rfl rfl ?_
          refine v_sipush fx dX8_mode_35 (by decide +kernel) rfl ?_
          refine v_iload_n fx 1 dX8_mode_38 rfl rfl ?_
          refine v_imul fx (3004 * y) dX8_mode_39 (by rfl) rfl ?_
          refine v_iload_n fx 2 dX8_mode_40 rfl rfl ?_
          refine v_iadd fx ((3004 * y) + k) dX8_mode_41 (by rfl) rfl ?_
          refine v_iald fx 1 dX8_mode_42 rfl (by omega) (by omega) rfl ?_
          refine v_goto fx 47 dX8_mode_43 (by decide) ?_
          exact v_iret fx [(h0, ob 8 [.ref xa, .ref xb, .ref xc, .ref xd, .ref xe, .ref xf, .ref xg, .int (iI 0), .int (iI vk), .int (iI vw), .ref xm, .ref xv, .int (iI vg), .ref xw, .int (iI vb), .int (iI vi), .ref xq, .int (iI ve), .int (iI vf), .int (iI vu), .int (iI vl), .ref xr, .ref xh, .ref xo, .ref xp, .int (iI vr), .int (iI va), .int (iI vt), .int (iI vm), .int (iI vd), .int (iI vx)]), (xo, aI g 75100 fm), (xp, aI g 25 fc)] [0, 1, 2] hr dX8_mode_47 rfl rfl (nl rfl) (nl rfl) ⟨(fm ((3004 * y) + k).toNat), rfl, rfl⟩
