/-! THE REFERENCE: rows are given and written -/
theorem and1_b {x t : Int32} {z : Int} (e1 : x &&& iI 1 = t) (e2 : t = iI z) (hz : -2147483648 ≤ z ∧ z < 2147483648) : 0 ≤ z ∧ z ≤ 1 := by
  obtain ⟨j, hj, e⟩ := pk_andE x (m := iI 1) 1 (by decide +kernel)
  rw [e1, e2, iI_nI, iI_inj hz (by omega)] at e
  omega
/-- a row of samples: 0 or 1 -/
def bZ (f : Nat → Int32) : Prop := ∀ i, 0 ≤ (f i).toInt ∧ (f i).toInt ≤ 1
theorem bZ_0 : bZ (fun _ => 0) := fun _ => (by decide : 0 ≤ (0 : Int32).toInt ∧ (0 : Int32).toInt ≤ 1)
theorem bZ_upd {f : Nat → Int32} (h : bZ f) (k : Nat) (x : Int32) : bZ (upd f k (vp_nar .boolean x)) := by
  intro i
  by_cases hi : i = k
  · subst hi
    rw [pk_us]
    obtain ⟨j, hj, e⟩ := pk_andE x (m := iI 1) 1 (by decide +kernel)
    have e2 : vp_nar .boolean x = x &&& iI 1 := rfl
    rw [e2, e, iI_nI, iI_toInt (by omega)]
    omega
  · rw [pk_un hi]; exact h i
theorem bZ_updE {f f2 : Nat → Int32} {k : Nat} {x : Int32} (e : upd f k (vp_nar .boolean x) = f2) (h : bZ f) : bZ f2 := e ▸ bZ_upd h k x
theorem bZ_at {f : Nat → Int32} (h : bZ f) {i : Nat} {z : Int} (e : f i = iI z) (hz : -2147483648 ≤ z ∧ z < 2147483648) : 0 ≤ z ∧ z ≤ 1 := by
  have := h i
  rw [e, iI_toInt hz] at this
  exact this
theorem shr_v {c n : Int} (hc : -2147483648 ≤ c ∧ c < 2147483648) (h : 0 ≤ n ∧ n ≤ 13) : iI c >>> (iI (n + 1) &&& 31) = iI (c / ((2 ^ (n.toNat + 1) : Nat) : Int)) := by
  rcases (show n = 0 ∨ n = 1 ∨ n = 2 ∨ n = 3 ∨ n = 4 ∨ n = 5 ∨ n = 6 ∨ n = 7 ∨ n = 8 ∨ n = 9 ∨ n = 10 ∨ n = 11 ∨ n = 12 ∨ n = 13 by omega) with rfl | rfl | rfl | rfl | rfl | rfl | rfl | rfl | rfl | rfl | rfl | rfl | rfl | rfl <;> exact iI_shr hc _ _ (by decide)
theorem shr_b {c : Int} {i : Nat} (hc : 0 ≤ c ∧ c < 16384) : -2147483648 ≤ c / ((2 ^ (i + 1) : Nat) : Int) ∧ c / ((2 ^ (i + 1) : Nat) : Int) < 2147483648 := by
  have h1 : 0 ≤ c / ((2 ^ (i + 1) : Nat) : Int) := Int.ediv_nonneg hc.1 (Int.natCast_nonneg _)
  have h2 : c / ((2 ^ (i + 1) : Nat) : Int) ≤ c := Int.ediv_le_self _ hc.1
  omega
theorem shr_0 {c : Int} {i : Nat} (hc : 0 ≤ c) (h : c / ((2 ^ (i + 1) : Nat) : Int) = 0) : c < ((2 ^ (i + 1) : Nat) : Int) := by
  have hp : (0 : Int) < ((2 ^ (i + 1) : Nat) : Int) := by have := Nat.two_pow_pos (i + 1); omega
  have h1 := Int.emod_lt_of_pos c hp
  have h2 := Int.emod_add_mul_ediv c ((2 ^ (i + 1) : Nat) : Int)
  rw [h] at h2
  omega
theorem shr_n {c : Int} {i : Nat} (hc : 0 ≤ c) (h : c / ((2 ^ (i + 1) : Nat) : Int) ≠ 0) : ((2 ^ (i + 1) : Nat) : Int) ≤ c := by
  by_cases q : c < ((2 ^ (i + 1) : Nat) : Int)
  · exact absurd (Int.ediv_eq_zero_of_lt hc q) h
  · omega
theorem pw_le {c : Int} {i : Nat} (h : ((2 ^ i : Nat) : Int) ≤ c) (hc : c < 16384) : i ≤ 13 := by
  by_cases q : i ≤ 13
  · exact q
  · have h1 : 2 ^ 14 ≤ 2 ^ i := Nat.pow_le_pow_right (by decide) (by omega)
    have h2 : 2 ^ 14 = 16384 := by decide
    omega
theorem clen_is {c : Int} {i : Nat} (h1 : ((2 ^ i : Nat) : Int) ≤ c) (h2 : c < ((2 ^ (i + 1) : Nat) : Int)) : clen c = i := by
  unfold clen
  have h0 : c.toNat ≠ 0 := by have := Nat.two_pow_pos i; omega
  exact (Nat.log2_eq_iff h0).mpr ⟨by omega, by omega⟩
theorem tabP_at {l : List Int} (h : l.all (fun x => decide (1 ≤ x ∧ x < 16384)) = true) {x : Int} (hx : 0 ≤ x ∧ x < l.length) : 1 ≤ l.getD x.toNat 0 ∧ l.getD x.toNat 0 < 16384 := by
  have hj : x.toNat < l.length := by omega
  have h1 := List.all_eq_true.mp h (l[x.toNat]) (List.getElem_mem hj)
  simp only [List.getD, List.getElem?_eq_getElem hj, Option.getD_some]
  exact of_decide_eq_true h1
def tabT (l : List Int) (b : Int) : Bool := (List.range 64).all fun n => decide ((n = 0 → (clen (l.getD n 0) : Int) ≤ 10) ∧ (1 ≤ n → (clen (l.getD n 0) : Int) ≤ 7 * n - 1 - b))
theorem tabT_w : tabT mW 0 = true := by decide +kernel
theorem tabT_b : tabT mB 1 = true := by decide +kernel
theorem tabT_at {l : List Int} {b : Int} (h : tabT l b = true) (hp : l.all (fun x => decide (1 ≤ x ∧ x < 16384)) = true) (hl : l.length = 64) {x : Int} (hx : 0 ≤ x ∧ x < 64) : (1 ≤ l.getD x.toNat 0 ∧ l.getD x.toNat 0 < 16384) ∧ (clen (l.getD x.toNat 0) : Int) ≤ rbB x b := by
  have h0 := tabP_at hp (x := x) (by omega)
  refine ⟨h0, ?_⟩
  have h1 := of_decide_eq_true (List.all_eq_true.mp h x.toNat (List.mem_range.mpr (by omega)))
  refine rbB_of hx.1 ⟨fun q => h1.1 (by omega), fun q1 q2 => ?_⟩ (by have := clen13 h0; omega)
  have := h1.2 (by omega)
  omega
theorem pr_of {fg : Nat → Int32} {ba x t bk fi z vw : Int} (h2 : fi = 0 → x < vw → fg (ba + x).toNat = iI bk) (hz : fg (ba + t).toNat = iI z) (hne : z ≠ bk) (hb : 0 ≤ bk ∧ bk ≤ 1) (hzb : -2147483648 ≤ z ∧ z < 2147483648) (hx : x ≤ t) (hxw : x < vw) (hfi : 0 ≤ fi) : 1 ≤ fi + (t - x) := by
  by_cases q : fi = 0 ∧ t = x
  · exfalso
    have e := h2 q.1 hxw
    rw [q.2] at hz
    rw [hz, iI_inj hzb (by omega)] at e
    exact hne e
  · omega
theorem dX8_put_0 : decode cX8_put 0 = .ok (.aload_n 0, 1) := by decide +kernel
theorem dX8_put_1 : decode cX8_put 1 = .ok (.iconst 0, 1) := by decide +kernel
theorem dX8_put_2 : decode cX8_put 2 = .ok (.putfield 66, 3) := by decide +kernel
theorem dX8_put_5 : decode cX8_put 5 = .ok (.iload_n 1, 1) := by decide +kernel
theorem dX8_put_6 : decode cX8_put 6 = .ok (.ifCond .lt 11, 3) := by decide +kernel
theorem dX8_put_9 : decode cX8_put 9 = .ok (.iload_n 1, 1) := by decide +kernel
theorem dX8_put_10 : decode cX8_put 10 = .ok (.aload_n 0, 1) := by decide +kernel
theorem dX8_put_11 : decode cX8_put 11 = .ok (.getfield 63, 3) := by decide +kernel
theorem dX8_put_14 : decode cX8_put 14 = .ok (.if_icmp .lt 5, 3) := by decide +kernel
theorem dX8_put_17 : decode cX8_put 17 = .ok (.iconst 0, 1) := by decide +kernel
theorem dX8_put_18 : decode cX8_put 18 = .ok (.ireturn, 1) := by decide +kernel
theorem dX8_put_19 : decode cX8_put 19 = .ok (.aload_n 0, 1) := by decide +kernel
theorem dX8_put_20 : decode cX8_put 20 = .ok (.getfield 31, 3) := by decide +kernel
theorem dX8_put_23 : decode cX8_put 23 = .ok (.iload_n 1, 1) := by decide +kernel
theorem dX8_put_24 : decode cX8_put 24 = .ok (.iload_n 2, 1) := by decide +kernel
theorem dX8_put_25 : decode cX8_put 25 = .ok (.bastore, 1) := by decide +kernel
theorem dX8_put_26 : decode cX8_put 26 = .ok (.iconst 1, 1) := by decide +kernel
theorem dX8_put_27 : decode cX8_put 27 = .ok (.ireturn, 1) := by decide +kernel
abbrev po_c_X8_put (g : GG) (h0 : Nat) (xa : Nat) (xb : Nat) (xc : Nat) (xd : Nat) (xe : Nat) (xf : Nat) (xg : Nat) (xm : Nat) (xv : Nat) (xw : Nat) (xq : Nat) (xr : Nat) (xh : Nat) (xo : Nat) (xp : Nat) (vc : Int) (vk : Int) (vw : Int) (vg : Int) (vb : Int) (vi : Int) (ve : Int) (vf : Int) (vu : Int) (vl : Int) (vr : Int) (va : Int) (vt : Int) (vm : Int) (vd : Int) (vx : Int) (f : Nat → Int32) (x : Int) (on : Int) : Option Value → va_W → Prop := fun v8 w8 => ∃ r : Int, ∃ f2 : Nat → Int32, v8 = some (.int (iI r)) ∧ w8 = [(h0, ob 8 [.ref xa, .ref xb, .ref xc, .ref xd, .ref xe, .ref xf, .ref xg, .int (iI 0), .int (iI vk), .int (iI vw), .ref xm, .ref xv, .int (iI vg), .ref xw, .int (iI vb), .int (iI vi), .ref xq, .int (iI ve), .int (iI vf), .int (iI vu), .int (iI vl), .ref xr, .ref xh, .ref xo, .ref xp, .int (iI vr), .int (iI va), .int (iI vt), .int (iI vm), .int (iI vd), .int (iI vx)]), (xm, aZ g 3000 f2)] ∧ ((r = 1 ∧ 0 ≤ x ∧ x < vw) ∨ (r = 0 ∧ (x < 0 ∨ vw ≤ x)))
set_option maxHeartbeats 4000000 in
set_option maxRecDepth 100000 in
theorem c_X8_put (l : Launch) (g : GG) (h0 : Nat) (xa : Nat) (xb : Nat) (xc : Nat) (xd : Nat) (xe : Nat) (xf : Nat) (xg : Nat) (xm : Nat) (xv : Nat) (xw : Nat) (xq : Nat) (xr : Nat) (xh : Nat) (xo : Nat) (xp : Nat) (vc : Int) (vk : Int) (vw : Int) (vg : Int) (vb : Int) (vi : Int) (ve : Int) (vf : Int) (vu : Int) (vl : Int) (vr : Int) (va : Int) (vt : Int) (vm : Int) (vd : Int) (vx : Int) (f : Nat → Int32) (x : Int) (on : Int) (hp0 : -2147483648 ≤ x ∧ x < 2147483648) (hp1 : 1 ≤ vw ∧ vw ≤ 3000) : Ct l g yX8_put (wM yX8_put cX8_put 3 (some .boolean)) (rmD 0 0 0) [.ref h0, .int (iI x), .int (iI on)] [(h0, ob 8 [.ref xa, .ref xb, .ref xc, .ref xd, .ref xe, .ref xf, .ref xg, .int (iI vc), .int (iI vk), .int (iI vw), .ref xm, .ref xv, .int (iI vg), .ref xw, .int (iI vb), .int (iI vi), .ref xq, .int (iI ve), .int (iI vf), .int (iI vu), .int (iI vl), .ref xr, .ref xh, .ref xo, .ref xp, .int (iI vr), .int (iI va), .int (iI vt), .int (iI vm), .int (iI vd), .int (iI vx)]), (xm, aZ g 3000 f)] (po_c_X8_put g h0 xa xb xc xd xe xf xg xm xv xw xq xr xh xo xp vc vk vw vg vb vi ve vf vu vl vr va vt vm vd vx f x on) := by
  refine Ct_of (by decide +kernel) (Nat.le_of_ble_eq_true rfl) ?_
  intro p9 e9 s9 m9 ag9 bl9 mt9 c9 A9 fx hr hnm
  refine v_aload_n fx 0 dX8_put_0 rfl rfl ?_
  refine v_iconst fx dX8_put_1 rfl ?_
  refine v_put fx 0 7 [(h0, ob 8 [.ref xa, .ref xb, .ref xc, .ref xd, .ref xe, .ref xf, .ref xg, .int (iI 0), .int (iI vk), .int (iI vw), .ref xm, .ref xv, .int (iI vg), .ref xw, .int (iI vb), .int (iI vi), .ref xq, .int (iI ve), .int (iI vf), .int (iI vu), .int (iI vl), .ref xr, .ref xh, .ref xo, .ref xp, .int (iI vr), .int (iI va), .int (iI vt), .int (iI vm), .int (iI vd), .int (iI vx)]), (xm, aZ g 3000 f)] inX8 tyX8_ok nmX8 k1003 dX8_put_2 rfl rfl (by decide) rfl rfl rfl rfl (nl rfl) rfl rfl ?_
  refine v_iload_n fx 1 dX8_put_5 rfl rfl ?_
  refine v_if_lt fx 17 dX8_put_6 (by decide) rfl (by omega) (fun h_1 => ?_) (fun h_1 => ?_)
  ·
    refine v_iconst fx dX8_put_17 rfl ?_
    exact v_zret fx [(h0, ob 8 [.ref xa, .ref xb, .ref xc, .ref xd, .ref xe, .ref xf, .ref xg, .int (iI 0), .int (iI vk), .int (iI vw), .ref xm, .ref xv, .int (iI vg), .ref xw, .int (iI vb), .int (iI vi), .ref xq, .int (iI ve), .int (iI vf), .int (iI vu), .int (iI vl), .ref xr, .ref xh, .ref xo, .ref xp, .int (iI vr), .int (iI va), .int (iI vt), .int (iI vm), .int (iI vd), .int (iI vx)]), (xm, aZ g 3000 f)] [0, 1] hr dX8_put_18 (by first | rfl | exact nar_z _ (by omega)) rfl rfl (nl rfl) (nl rfl) ⟨0, f, rfl, rfl, (by first | omega | rfl | assumption)⟩
  ·
    refine v_iload_n fx 1 dX8_put_9 rfl rfl ?_
    refine v_aload_n fx 0 dX8_put_10 rfl rfl ?_
    refine v_get fx 0 9 inX8 k1005 dX8_put_11 rfl rfl (by decide) rfl rfl rfl ?_
    refine v_icmp_lt fx 19 dX8_put_14 (by decide) rfl (by omega) (by omega) (fun h_2 => ?_) (fun h_2 => ?_)
    ·
      refine v_aload_n fx 0 dX8_put_19 rfl rfl ?_
      refine v_get fx 0 10 inX8 k1006 dX8_put_20 rfl rfl (by decide) rfl rfl rfl ?_
      refine v_iload_n fx 1 dX8_put_23 rfl rfl ?_
      refine v_iload_n fx 2 dX8_put_24 rfl rfl ?_
      obtain ⟨f_3, ef_3⟩ : ∃ f9 : Nat → Int32, upd f (x).toNat (vp_nar .boolean (iI on)) = f9 := ⟨_, rfl⟩
      refine v_zast fx 1 f_3 [(h0, ob 8 [.ref xa, .ref xb, .ref xc, .ref xd, .ref xe, .ref xf, .ref xg, .int (iI 0), .int (iI vk), .int (iI vw), .ref xm, .ref xv, .int (iI vg), .ref xw, .int (iI vb), .int (iI vi), .ref xq, .int (iI ve), .int (iI vf), .int (iI vu), .int (iI vl), .ref xr, .ref xh, .ref xo, .ref xp, .int (iI vr), .int (iI va), .int (iI vt), .int (iI vm), .int (iI vd), .int (iI vx)]), (xm, aZ g 3000 f_3)] dX8_put_25 rfl (by omega) (by omega) ef_3 rfl rfl ?_
      refine v_iconst fx dX8_put_26 rfl ?_
      exact v_zret fx [(h0, ob 8 [.ref xa, .ref xb, .ref xc, .ref xd, .ref xe, .ref xf, .ref xg, .int (iI 0), .int (iI vk), .int (iI vw), .ref xm, .ref xv, .int (iI vg), .ref xw, .int (iI vb), .int (iI vi), .ref xq, .int (iI ve), .int (iI vf), .int (iI vu), .int (iI vl), .ref xr, .ref xh, .ref xo, .ref xp, .int (iI vr), .int (iI va), .int (iI vt), .int (iI vm), .int (iI vd), .int (iI vx)]), (xm, aZ g 3000 f_3)] [0, 1] hr dX8_put_27 (by first | rfl | exact nar_z _ (by omega)) rfl rfl (nl rfl) (nl rfl) ⟨1, f_3, rfl, rfl, (by first | omega | rfl | assumption)⟩
    ·
      refine v_iconst fx dX8_put_17 rfl ?_
      exact v_zret fx [(h0, ob 8 [.ref xa, .ref xb, .ref xc, .ref xd, .ref xe, .ref xf, .ref xg, .int (iI 0), .int (iI vk), .int (iI vw), .ref xm, .ref xv, .int (iI vg), .ref xw, .int (iI vb), .int (iI vi), .ref xq, .int (iI ve), .int (iI vf), .int (iI vu), .int (iI vl), .ref xr, .ref xh, .ref xo, .ref xp, .int (iI vr), .int (iI va), .int (iI vt), .int (iI vm), .int (iI vd), .int (iI vx)]), (xm, aZ g 3000 f)] [0, 1] hr dX8_put_18 (by first | rfl | exact nar_z _ (by omega)) rfl rfl (nl rfl) (nl rfl) ⟨0, f, rfl, rfl, (by first | omega | rfl | assumption)⟩
theorem dX8_endRow_0 : decode cX8_endRow 0 = .ok (.aload_n 0, 1) := by decide +kernel
theorem dX8_endRow_1 : decode cX8_endRow 1 = .ok (.iconst 0, 1) := by decide +kernel
theorem dX8_endRow_2 : decode cX8_endRow 2 = .ok (.putfield 66, 3) := by decide +kernel
theorem dX8_endRow_5 : decode cX8_endRow 5 = .ok (.aload_n 0, 1) := by decide +kernel
theorem dX8_endRow_6 : decode cX8_endRow 6 = .ok (.getfield 69, 3) := by decide +kernel
theorem dX8_endRow_9 : decode cX8_endRow 9 = .ok (.bipush 24, 2) := by decide +kernel
theorem dX8_endRow_11 : decode cX8_endRow 11 = .ok (.if_icmp .ne 5, 3) := by decide +kernel
theorem dX8_endRow_14 : decode cX8_endRow 14 = .ok (.iconst 0, 1) := by decide +kernel
theorem dX8_endRow_15 : decode cX8_endRow 15 = .ok (.ireturn, 1) := by decide +kernel
theorem dX8_endRow_16 : decode cX8_endRow 16 = .ok (.iconst 0, 1) := by decide +kernel
theorem dX8_endRow_17 : decode cX8_endRow 17 = .ok (.istore_n 1, 1) := by decide +kernel
theorem dX8_endRow_18 : decode cX8_endRow 18 = .ok (.iload_n 1, 1) := by decide +kernel
theorem dX8_endRow_19 : decode cX8_endRow 19 = .ok (.aload_n 0, 1) := by decide +kernel
theorem dX8_endRow_20 : decode cX8_endRow 20 = .ok (.getfield 63, 3) := by decide +kernel
theorem dX8_endRow_23 : decode cX8_endRow 23 = .ok (.if_icmp .ge 37, 3) := by decide +kernel
theorem dX8_endRow_26 : decode cX8_endRow 26 = .ok (.aload_n 0, 1) := by decide +kernel
theorem dX8_endRow_27 : decode cX8_endRow 27 = .ok (.getfield 36, 3) := by decide +kernel
theorem dX8_endRow_30 : decode cX8_endRow 30 = .ok (.sipush 3000, 3) := by decide +kernel
theorem dX8_endRow_33 : decode cX8_endRow 33 = .ok (.aload_n 0, 1) := by decide +kernel
theorem dX8_endRow_34 : decode cX8_endRow 34 = .ok (.getfield 69, 3) := by decide +kernel
theorem dX8_endRow_37 : decode cX8_endRow 37 = .ok (.imul, 1) := by decide +kernel
theorem dX8_endRow_38 : decode cX8_endRow 38 = .ok (.iload_n 1, 1) := by decide +kernel
theorem dX8_endRow_39 : decode cX8_endRow 39 = .ok (.iadd, 1) := by decide +kernel
theorem dX8_endRow_40 : decode cX8_endRow 40 = .ok (.aload_n 0, 1) := by decide +kernel
theorem dX8_endRow_41 : decode cX8_endRow 41 = .ok (.getfield 31, 3) := by decide +kernel
theorem dX8_endRow_44 : decode cX8_endRow 44 = .ok (.iload_n 1, 1) := by decide +kernel
theorem dX8_endRow_45 : decode cX8_endRow 45 = .ok (.baload, 1) := by decide +kernel
theorem dX8_endRow_46 : decode cX8_endRow 46 = .ok (.bastore, 1) := by decide +kernel
theorem dX8_endRow_47 : decode cX8_endRow 47 = .ok (.aload_n 0, 1) := by decide +kernel
theorem dX8_endRow_48 : decode cX8_endRow 48 = .ok (.getfield 31, 3) := by decide +kernel
theorem dX8_endRow_51 : decode cX8_endRow 51 = .ok (.iload_n 1, 1) := by decide +kernel
theorem dX8_endRow_52 : decode cX8_endRow 52 = .ok (.iconst 0, 1) := by decide +kernel
theorem dX8_endRow_53 : decode cX8_endRow 53 = .ok (.bastore, 1) := by decide +kernel
theorem dX8_endRow_54 : decode cX8_endRow 54 = .ok (.iinc 1 1, 3) := by decide +kernel
theorem dX8_endRow_57 : decode cX8_endRow 57 = .ok (.goto (-39), 3) := by decide +kernel
theorem dX8_endRow_60 : decode cX8_endRow 60 = .ok (.aload_n 0, 1) := by decide +kernel
theorem dX8_endRow_61 : decode cX8_endRow 61 = .ok (.dup, 1) := by decide +kernel
theorem dX8_endRow_62 : decode cX8_endRow 62 = .ok (.getfield 69, 3) := by decide +kernel
theorem dX8_endRow_65 : decode cX8_endRow 65 = .ok (.iconst 1, 1) := by decide +kernel
theorem dX8_endRow_66 : decode cX8_endRow 66 = .ok (.iadd, 1) := by decide +kernel
theorem dX8_endRow_67 : decode cX8_endRow 67 = .ok (.putfield 69, 3) := by decide +kernel
theorem dX8_endRow_70 : decode cX8_endRow 70 = .ok (.iconst 1, 1) := by decide +kernel
theorem dX8_endRow_71 : decode cX8_endRow 71 = .ok (.ireturn, 1) := by decide +kernel
abbrev po_c_X8_endRow (g : GG) (h0 : Nat) (xa : Nat) (xb : Nat) (xc : Nat) (xd : Nat) (xe : Nat) (xf : Nat) (xg : Nat) (xm : Nat) (xv : Nat) (xw : Nat) (xq : Nat) (xr : Nat) (xh : Nat) (xo : Nat) (xp : Nat) (vc : Int) (vk : Int) (vw : Int) (vg : Int) (vb : Int) (vi : Int) (ve : Int) (vf : Int) (vu : Int) (vl : Int) (vr : Int) (va : Int) (vt : Int) (vm : Int) (vd : Int) (vx : Int) (f : Nat → Int32) (fg : Nat → Int32) : Option Value → va_W → Prop := fun v8 w8 => ∃ r : Int, ∃ g2 : Int, ∃ f2 : Nat → Int32, ∃ f3 : Nat → Int32, v8 = some (.int (iI r)) ∧ w8 = [(h0, ob 8 [.ref xa, .ref xb, .ref xc, .ref xd, .ref xe, .ref xf, .ref xg, .int (iI 0), .int (iI vk), .int (iI vw), .ref xm, .ref xv, .int (iI g2), .ref xw, .int (iI vb), .int (iI vi), .ref xq, .int (iI ve), .int (iI vf), .int (iI vu), .int (iI vl), .ref xr, .ref xh, .ref xo, .ref xp, .int (iI vr), .int (iI va), .int (iI vt), .int (iI vm), .int (iI vd), .int (iI vx)]), (xm, aZ g 3000 f2), (xv, aZ g 72000 f3)] ∧ ((r = 1 ∧ vg < 24 ∧ g2 = vg + 1) ∨ (r = 0 ∧ vg = 24 ∧ g2 = vg)) ∧ (bZ f3)
set_option maxHeartbeats 4000000 in
set_option maxRecDepth 100000 in
theorem c_X8_endRow (l : Launch) (g : GG) (h0 : Nat) (xa : Nat) (xb : Nat) (xc : Nat) (xd : Nat) (xe : Nat) (xf : Nat) (xg : Nat) (xm : Nat) (xv : Nat) (xw : Nat) (xq : Nat) (xr : Nat) (xh : Nat) (xo : Nat) (xp : Nat) (vc : Int) (vk : Int) (vw : Int) (vg : Int) (vb : Int) (vi : Int) (ve : Int) (vf : Int) (vu : Int) (vl : Int) (vr : Int) (va : Int) (vt : Int) (vm : Int) (vd : Int) (vx : Int) (f : Nat → Int32) (fg : Nat → Int32) (hp0 : 0 ≤ vg ∧ vg ≤ 24) (hp1 : 1 ≤ vw ∧ vw ≤ 3000) (hp2 : bZ fg) : Ct l g yX8_endRow (wM yX8_endRow cX8_endRow 2 (some .boolean)) (rmD 0 0 0) [.ref h0] [(h0, ob 8 [.ref xa, .ref xb, .ref xc, .ref xd, .ref xe, .ref xf, .ref xg, .int (iI vc), .int (iI vk), .int (iI vw), .ref xm, .ref xv, .int (iI vg), .ref xw, .int (iI vb), .int (iI vi), .ref xq, .int (iI ve), .int (iI vf), .int (iI vu), .int (iI vl), .ref xr, .ref xh, .ref xo, .ref xp, .int (iI vr), .int (iI va), .int (iI vt), .int (iI vm), .int (iI vd), .int (iI vx)]), (xm, aZ g 3000 f), (xv, aZ g 72000 fg)] (po_c_X8_endRow g h0 xa xb xc xd xe xf xg xm xv xw xq xr xh xo xp vc vk vw vg vb vi ve vf vu vl vr va vt vm vd vx f fg) := by
  refine Ct_of (by decide +kernel) (Nat.le_of_ble_eq_true rfl) ?_
  intro p9 e9 s9 m9 ag9 bl9 mt9 c9 A9 fx hr hnm
  refine v_aload_n fx 0 dX8_endRow_0 rfl rfl ?_
  refine v_iconst fx dX8_endRow_1 rfl ?_
  refine v_put fx 0 7 [(h0, ob 8 [.ref xa, .ref xb, .ref xc, .ref xd, .ref xe, .ref xf, .ref xg, .int (iI 0), .int (iI vk), .int (iI vw), .ref xm, .ref xv, .int (iI vg), .ref xw, .int (iI vb), .int (iI vi), .ref xq, .int (iI ve), .int (iI vf), .int (iI vu), .int (iI vl), .ref xr, .ref xh, .ref xo, .ref xp, .int (iI vr), .int (iI va), .int (iI vt), .int (iI vm), .int (iI vd), .int (iI vx)]), (xm, aZ g 3000 f), (xv, aZ g 72000 fg)] inX8 tyX8_ok nmX8 k1003 dX8_endRow_2 rfl rfl (by decide) rfl rfl rfl rfl (nl rfl) rfl rfl ?_
  refine v_aload_n fx 0 dX8_endRow_5 rfl rfl ?_
  refine v_get fx 0 12 inX8 k1008 dX8_endRow_6 rfl rfl (by decide) rfl rfl rfl ?_
  refine v_bipush fx dX8_endRow_9 (by decide +kernel) rfl ?_
  refine v_icmp_ne fx 16 dX8_endRow_11 (by decide) rfl (by omega) (by omega) (fun h_1 => ?_) (fun h_1 => ?_)
  ·
    refine v_iconst fx dX8_endRow_16 rfl ?_
    refine v_istore_n fx [(1, .int (iI 0)), (0, .ref h0)] dX8_endRow_17 (by decide) rfl rfl ?_
    have L18 : ∀ (N : Nat) (i : Int) (f4 : Nat → Int32) (f5 : Nat → Int32), (0 ≤ i ∧ i ≤ vw) → (vg < 24) → (bZ f5) → ((vw - i).toNat) < N → V p9 l e9 (rmD 0 0 0) s9 m9 ag9 bl9 mt9 c9 2 g A9 (MQ bl9 (cQ g (po_c_X8_endRow g h0 xa xb xc xd xe xf xg xm xv xw xq xr xh xo xp vc vk vw vg vb vi ve vf vu vl vr va vt vm vd vx f fg) A9) ag9 s9 0 0 A9) [(h0, ob 8 [.ref xa, .ref xb, .ref xc, .ref xd, .ref xe, .ref xf, .ref xg, .int (iI 0), .int (iI vk), .int (iI vw), .ref xm, .ref xv, .int (iI vg), .ref xw, .int (iI vb), .int (iI vi), .ref xq, .int (iI ve), .int (iI vf), .int (iI vu), .int (iI vl), .ref xr, .ref xh, .ref xo, .ref xp, .int (iI vr), .int (iI va), .int (iI vt), .int (iI vm), .int (iI vd), .int (iI vx)]), (xm, aZ g 3000 f4), (xv, aZ g 72000 f5)] 0 0 [(0, .ref h0), (1, .int (iI i))] 18 [] := by
      intro N
      induction N with
      | zero => intro i f4 f5 hi18_0 hi18_1 hi18_2 hN; exact absurd hN (Nat.not_lt_zero _)
      | succ N ihL18 =>
        intro i f4 f5 hi18_0 hi18_1 hi18_2 hN18
        refine v_iload_n fx 1 dX8_endRow_18 rfl rfl ?_
        refine v_aload_n fx 0 dX8_endRow_19 rfl rfl ?_
        refine v_get fx 0 9 inX8 k1005 dX8_endRow_20 rfl rfl (by decide) rfl rfl rfl ?_
        refine v_icmp_ge fx 60 dX8_endRow_23 (by decide) rfl (by omega) (by omega) (fun h_2 => ?_) (fun h_2 => ?_)
        ·
          refine v_aload_n fx 0 dX8_endRow_60 rfl rfl ?_
          refine v_dup fx dX8_endRow_61 rfl rfl ?_
          refine v_get fx 0 12 inX8 k1008 dX8_endRow_62 rfl rfl (by decide) rfl rfl rfl ?_
          refine v_iconst fx dX8_endRow_65 rfl ?_
          refine v_iadd fx (vg + 1) dX8_endRow_66 (by rfl) rfl ?_
          refine v_put fx 0 12 [(h0, ob 8 [.ref xa, .ref xb, .ref xc, .ref xd, .ref xe, .ref xf, .ref xg, .int (iI 0), .int (iI vk), .int (iI vw), .ref xm, .ref xv, .int (iI (vg + 1)), .ref xw, .int (iI vb), .int (iI vi), .ref xq, .int (iI ve), .int (iI vf), .int (iI vu), .int (iI vl), .ref xr, .ref xh, .ref xo, .ref xp, .int (iI vr), .int (iI va), .int (iI vt), .int (iI vm), .int (iI vd), .int (iI vx)]), (xm, aZ g 3000 f4), (xv, aZ g 72000 f5)] inX8 tyX8_ok nmX8 k1008 dX8_endRow_67 rfl rfl (by decide) rfl rfl rfl rfl (nl rfl) rfl rfl ?_
          refine v_iconst fx dX8_endRow_70 rfl ?_
          exact v_zret fx [(h0, ob 8 [.ref xa, .ref xb, .ref xc, .ref xd, .ref xe, .ref xf, .ref xg, .int (iI 0), .int (iI vk), .int (iI vw), .ref xm, .ref xv, .int (iI (vg + 1)), .ref xw, .int (iI vb), .int (iI vi), .ref xq, .int (iI ve), .int (iI vf), .int (iI vu), .int (iI vl), .ref xr, .ref xh, .ref xo, .ref xp, .int (iI vr), .int (iI va), .int (iI vt), .int (iI vm), .int (iI vd), .int (iI vx)]), (xm, aZ g 3000 f4), (xv, aZ g 72000 f5)] [0, 1, 2] hr dX8_endRow_71 (by first | rfl | exact nar_z _ (by omega)) rfl rfl (nl rfl) (nl rfl) ⟨1, (vg + 1), f4, f5, rfl, rfl, (by first | omega | rfl | assumption), (by first | omega | rfl | assumption)⟩
        ·
          refine v_aload_n fx 0 dX8_endRow_26 rfl rfl ?_
          refine v_get fx 0 11 inX8 k1007 dX8_endRow_27 rfl rfl (by decide) rfl rfl rfl ?_
          refine v_sipush fx dX8_endRow_30 (by decide +kernel) rfl ?_
          refine v_aload_n fx 0 dX8_endRow_33 rfl rfl ?_
          refine v_get fx 0 12 inX8 k1008 dX8_endRow_34 rfl rfl (by decide) rfl rfl rfl ?_
          refine v_imul fx (3000 * vg) dX8_endRow_37 (by rfl) rfl ?_
          refine v_iload_n fx 1 dX8_endRow_38 rfl rfl ?_
          refine v_iadd fx ((3000 * vg) + i) dX8_endRow_39 (by rfl) rfl ?_
          refine v_aload_n fx 0 dX8_endRow_40 rfl rfl ?_
          refine v_get fx 0 10 inX8 k1006 dX8_endRow_41 rfl rfl (by decide) rfl rfl rfl ?_
          refine v_iload_n fx 1 dX8_endRow_44 rfl rfl ?_
          refine v_zald fx 1 dX8_endRow_45 rfl (by omega) (by omega) rfl ?_
          obtain ⟨f_3, ef_3⟩ : ∃ f9 : Nat → Int32, upd f5 ((3000 * vg) + i).toNat (vp_nar .boolean (f4 (i).toNat)) = f9 := ⟨_, rfl⟩
          refine v_zast fx 2 f_3 [(h0, ob 8 [.ref xa, .ref xb, .ref xc, .ref xd, .ref xe, .ref xf, .ref xg, .int (iI 0), .int (iI vk), .int (iI vw), .ref xm, .ref xv, .int (iI vg), .ref xw, .int (iI vb), .int (iI vi), .ref xq, .int (iI ve), .int (iI vf), .int (iI vu), .int (iI vl), .ref xr, .ref xh, .ref xo, .ref xp, .int (iI vr), .int (iI va), .int (iI vt), .int (iI vm), .int (iI vd), .int (iI vx)]), (xm, aZ g 3000 f4), (xv, aZ g 72000 f_3)] dX8_endRow_46 rfl (by omega) (by omega) ef_3 rfl rfl ?_
          refine v_aload_n fx 0 dX8_endRow_47 rfl rfl ?_
          refine v_get fx 0 10 inX8 k1006 dX8_endRow_48 rfl rfl (by decide) rfl rfl rfl ?_
          refine v_iload_n fx 1 dX8_endRow_51 rfl rfl ?_
          refine v_iconst fx dX8_endRow_52 rfl ?_
          obtain ⟨f_4, ef_4⟩ : ∃ f9 : Nat → Int32, upd f4 (i).toNat (vp_nar .boolean (iI 0)) = f9 := ⟨_, rfl⟩
          refine v_zast fx 1 f_4 [(h0, ob 8 [.ref xa, .ref xb, .ref xc, .ref xd, .ref xe, .ref xf, .ref xg, .int (iI 0), .int (iI vk), .int (iI vw), .ref xm, .ref xv, .int (iI vg), .ref xw, .int (iI vb), .int (iI vi), .ref xq, .int (iI ve), .int (iI vf), .int (iI vu), .int (iI vl), .ref xr, .ref xh, .ref xo, .ref xp, .int (iI vr), .int (iI va), .int (iI vt), .int (iI vm), .int (iI vd), .int (iI vx)]), (xm, aZ g 3000 f_4), (xv, aZ g 72000 f_3)] dX8_endRow_53 rfl (by omega) (by omega) ef_4 rfl rfl ?_
          refine v_iinc fx 1 (i + 1) [(1, .int (iI (i + 1))), (0, .ref h0)] dX8_endRow_54 rfl (by omega) (by decide) rfl rfl ?_
          refine v_goto fx 18 dX8_endRow_57 (by decide) ?_
          refine v_lv [1, 0] [(0, .ref h0), (1, .int (iI (i + 1)))] rfl ?_
          exact ihL18 (i + 1) f_4 f_3 (by omega) (by omega) (by exact bZ_updE (by assumption) hi18_2) (by omega)
    refine v_lv [1, 0] [(0, .ref h0), (1, .int (iI 0))] rfl ?_
    exact L18 _ 0 f fg (by omega) (by omega) (by exact hp2) (Nat.lt_succ_self _)
  ·
    refine v_iconst fx dX8_endRow_14 rfl ?_
    exact v_zret fx [(h0, ob 8 [.ref xa, .ref xb, .ref xc, .ref xd, .ref xe, .ref xf, .ref xg, .int (iI 0), .int (iI vk), .int (iI vw), .ref xm, .ref xv, .int (iI vg), .ref xw, .int (iI vb), .int (iI vi), .ref xq, .int (iI ve), .int (iI vf), .int (iI vu), .int (iI vl), .ref xr, .ref xh, .ref xo, .ref xp, .int (iI vr), .int (iI va), .int (iI vt), .int (iI vm), .int (iI vd), .int (iI vx)]), (xm, aZ g 3000 f), (xv, aZ g 72000 fg)] [0, 1, 2] hr dX8_endRow_15 (by first | rfl | exact nar_z _ (by omega)) rfl rfl (nl rfl) (nl rfl) ⟨0, vg, f, fg, rfl, rfl, (by first | omega | rfl | assumption), (by first | omega | rfl | assumption)⟩
theorem dX8_bit_0 : decode cX8_bit 0 = .ok (.aload_n 0, 1) := by decide +kernel
theorem dX8_bit_1 : decode cX8_bit 1 = .ok (.getfield 72, 3) := by decide +kernel
theorem dX8_bit_4 : decode cX8_bit 4 = .ok (.bipush 8, 2) := by decide +kernel
theorem dX8_bit_6 : decode cX8_bit 6 = .ok (.idiv, 1) := by decide +kernel
theorem dX8_bit_7 : decode cX8_bit 7 = .ok (.istore_n 2, 1) := by decide +kernel
theorem dX8_bit_8 : decode cX8_bit 8 = .ok (.aload_n 0, 1) := by decide +kernel
theorem dX8_bit_9 : decode cX8_bit 9 = .ok (.getfield 75, 3) := by decide +kernel
theorem dX8_bit_12 : decode cX8_bit 12 = .ok (.ifCond .eq 13, 3) := by decide +kernel
theorem dX8_bit_15 : decode cX8_bit 15 = .ok (.aload_n 0, 1) := by decide +kernel
theorem dX8_bit_16 : decode cX8_bit 16 = .ok (.getfield 72, 3) := by decide +kernel
theorem dX8_bit_19 : decode cX8_bit 19 = .ok (.bipush 8, 2) := by decide +kernel
theorem dX8_bit_21 : decode cX8_bit 21 = .ok (.irem, 1) := by decide +kernel
theorem dX8_bit_22 : decode cX8_bit 22 = .ok (.goto 13, 3) := by decide +kernel
theorem dX8_bit_25 : decode cX8_bit 25 = .ok (.bipush 7, 2) := by decide +kernel
theorem dX8_bit_27 : decode cX8_bit 27 = .ok (.aload_n 0, 1) := by decide +kernel
theorem dX8_bit_28 : decode cX8_bit 28 = .ok (.getfield 72, 3) := by decide +kernel
theorem dX8_bit_31 : decode cX8_bit 31 = .ok (.bipush 8, 2) := by decide +kernel
theorem dX8_bit_33 : decode cX8_bit 33 = .ok (.irem, 1) := by decide +kernel
theorem dX8_bit_34 : decode cX8_bit 34 = .ok (.isub, 1) := by decide +kernel
theorem dX8_bit_35 : decode cX8_bit 35 = .ok (.istore_n 3, 1) := by decide +kernel
theorem dX8_bit_36 : decode cX8_bit 36 = .ok (.aload_n 0, 1) := by decide +kernel
theorem dX8_bit_37 : decode cX8_bit 37 = .ok (.getfield 39, 3) := by decide +kernel
theorem dX8_bit_40 : decode cX8_bit 40 = .ok (.iload_n 2, 1) := by decide +kernel
theorem dX8_bit_41 : decode cX8_bit 41 = .ok (.aload_n 0, 1) := by decide +kernel
theorem dX8_bit_42 : decode cX8_bit 42 = .ok (.getfield 72, 3) := by decide +kernel
theorem dX8_bit_45 : decode cX8_bit 45 = .ok (.bipush 8, 2) := by decide +kernel
theorem dX8_bit_47 : decode cX8_bit 47 = .ok (.irem, 1) := by decide +kernel
theorem dX8_bit_48 : decode cX8_bit 48 = .ok (.ifCond .ne 9, 3) := by decide +kernel
theorem dX8_bit_51 : decode cX8_bit 51 = .ok (.iload_n 1, 1) := by decide +kernel
theorem dX8_bit_52 : decode cX8_bit 52 = .ok (.iload_n 3, 1) := by decide +kernel
theorem dX8_bit_53 : decode cX8_bit 53 = .ok (.ishl, 1) := by decide +kernel
theorem dX8_bit_54 : decode cX8_bit 54 = .ok (.goto 13, 3) := by decide +kernel
theorem dX8_bit_57 : decode cX8_bit 57 = .ok (.aload_n 0, 1) := by decide +kernel
theorem dX8_bit_58 : decode cX8_bit 58 = .ok (.getfield 39, 3) := by decide +kernel
theorem dX8_bit_61 : decode cX8_bit 61 = .ok (.iload_n 2, 1) := by decide +kernel
theorem dX8_bit_62 : decode cX8_bit 62 = .ok (.iaload, 1) := by decide +kernel
theorem dX8_bit_63 : decode cX8_bit 63 = .ok (.iload_n 1, 1) := by decide +kernel
theorem dX8_bit_64 : decode cX8_bit 64 = .ok (.iload_n 3, 1) := by decide +kernel
theorem dX8_bit_65 : decode cX8_bit 65 = .ok (.ishl, 1) := by decide +kernel
theorem dX8_bit_66 : decode cX8_bit 66 = .ok (.iadd, 1) := by decide +kernel
theorem dX8_bit_67 : decode cX8_bit 67 = .ok (.iastore, 1) := by decide +kernel
theorem dX8_bit_68 : decode cX8_bit 68 = .ok (.aload_n 0, 1) := by decide +kernel
theorem dX8_bit_69 : decode cX8_bit 69 = .ok (.dup, 1) := by decide +kernel
theorem dX8_bit_70 : decode cX8_bit 70 = .ok (.getfield 72, 3) := by decide +kernel
theorem dX8_bit_73 : decode cX8_bit 73 = .ok (.iconst 1, 1) := by decide +kernel
theorem dX8_bit_74 : decode cX8_bit 74 = .ok (.iadd, 1) := by decide +kernel
theorem dX8_bit_75 : decode cX8_bit 75 = .ok (.putfield 72, 3) := by decide +kernel
theorem dX8_bit_78 : decode cX8_bit 78 = .ok (.return_, 1) := by decide +kernel
abbrev po_c_X8_bit (g : GG) (h0 : Nat) (xa : Nat) (xb : Nat) (xc : Nat) (xd : Nat) (xe : Nat) (xf : Nat) (xg : Nat) (xm : Nat) (xv : Nat) (xw : Nat) (xq : Nat) (xr : Nat) (xh : Nat) (xo : Nat) (xp : Nat) (vc : Int) (vk : Int) (vw : Int) (vg : Int) (vb : Int) (vi : Int) (ve : Int) (vf : Int) (vu : Int) (vl : Int) (vr : Int) (va : Int) (vt : Int) (vm : Int) (vd : Int) (vx : Int) (f : Nat → Int32) (x : Int32) : Option Value → va_W → Prop := fun v8 w8 => ∃ f2 : Nat → Int32, v8 = none ∧ w8 = [(h0, ob 8 [.ref xa, .ref xb, .ref xc, .ref xd, .ref xe, .ref xf, .ref xg, .int (iI vc), .int (iI vk), .int (iI vw), .ref xm, .ref xv, .int (iI vg), .ref xw, .int (iI (vb + 1)), .int (iI vi), .ref xq, .int (iI ve), .int (iI vf), .int (iI vu), .int (iI vl), .ref xr, .ref xh, .ref xo, .ref xp, .int (iI vr), .int (iI va), .int (iI vt), .int (iI vm), .int (iI vd), .int (iI vx)]), (xw, aI g 72000 f2)]
set_option maxHeartbeats 4000000 in
set_option maxRecDepth 100000 in
theorem c_X8_bit (l : Launch) (g : GG) (h0 : Nat) (xa : Nat) (xb : Nat) (xc : Nat) (xd : Nat) (xe : Nat) (xf : Nat) (xg : Nat) (xm : Nat) (xv : Nat) (xw : Nat) (xq : Nat) (xr : Nat) (xh : Nat) (xo : Nat) (xp : Nat) (vc : Int) (vk : Int) (vw : Int) (vg : Int) (vb : Int) (vi : Int) (ve : Int) (vf : Int) (vu : Int) (vl : Int) (vr : Int) (va : Int) (vt : Int) (vm : Int) (vd : Int) (vx : Int) (f : Nat → Int32) (x : Int32) (hp0 : 0 ≤ vb ∧ vb < 576000) (hp1 : 0 ≤ vl ∧ vl ≤ 1) : Ct l g yX8_bit (wM yX8_bit cX8_bit 4 none) (rmD 0 0 0) [.ref h0, .int x] [(h0, ob 8 [.ref xa, .ref xb, .ref xc, .ref xd, .ref xe, .ref xf, .ref xg, .int (iI vc), .int (iI vk), .int (iI vw), .ref xm, .ref xv, .int (iI vg), .ref xw, .int (iI vb), .int (iI vi), .ref xq, .int (iI ve), .int (iI vf), .int (iI vu), .int (iI vl), .ref xr, .ref xh, .ref xo, .ref xp, .int (iI vr), .int (iI va), .int (iI vt), .int (iI vm), .int (iI vd), .int (iI vx)]), (xw, aI g 72000 f)] (po_c_X8_bit g h0 xa xb xc xd xe xf xg xm xv xw xq xr xh xo xp vc vk vw vg vb vi ve vf vu vl vr va vt vm vd vx f x) := by
  refine Ct_of (by decide +kernel) (Nat.le_of_ble_eq_true rfl) ?_
  intro p9 e9 s9 m9 ag9 bl9 mt9 c9 A9 fx hr hnm
  refine v_aload_n fx 0 dX8_bit_0 rfl rfl ?_
  refine v_get fx 0 14 inX8 k1010 dX8_bit_1 rfl rfl (by decide) rfl rfl rfl ?_
  refine v_bipush fx dX8_bit_4 (by decide +kernel) rfl ?_
  refine v_idiv fx (iI (vb / 8)) dX8_bit_6 (by decide) (iI_div (by omega) 8 (by decide) (by decide)) rfl ?_
  refine v_istore_n fx [(2, .int (iI (vb / 8))), (0, .ref h0), (1, .int x)] dX8_bit_7 (by decide) rfl rfl ?_
  refine v_aload_n fx 1 dX8_bit_8 rfl rfl ?_
  refine v_get fx 0 20 inX8 k1016 dX8_bit_9 rfl rfl (by decide) rfl rfl rfl ?_
  refine v_if_eq fx 25 dX8_bit_12 (by decide) rfl (by omega) (fun h_1 => ?_) (fun h_1 => ?_)
  ·
    refine v_bipush fx dX8_bit_25 (by decide +kernel) rfl ?_
    refine v_aload_n fx 1 dX8_bit_27 rfl rfl ?_
    refine v_get fx 0 14 inX8 k1010 dX8_bit_28 rfl rfl (by decide) rfl rfl rfl ?_
    refine v_bipush fx dX8_bit_31 (by decide +kernel) rfl ?_
    refine v_irem fx (iI (vb % 8)) dX8_bit_33 (by decide) (iI_rem (by omega) 8 (by decide) (by decide)) rfl ?_
    refine v_isub fx (7 - (vb % 8)) dX8_bit_34 (by rfl) rfl ?_
    refine v_istore_n fx [(3, .int (iI (7 - (vb % 8)))), (2, .int (iI (vb / 8))), (0, .ref h0), (1, .int x)] dX8_bit_35 (by decide) rfl rfl ?_
    refine v_aload_n fx 2 dX8_bit_36 rfl rfl ?_
    refine v_get fx 0 13 inX8 k1009 dX8_bit_37 rfl rfl (by decide) rfl rfl rfl ?_
    refine v_iload_n fx 1 dX8_bit_40 rfl rfl ?_
    refine v_aload_n fx 2 dX8_bit_41 rfl rfl ?_
    refine v_get fx 0 14 inX8 k1010 dX8_bit_42 rfl rfl (by decide) rfl rfl rfl ?_
    refine v_bipush fx dX8_bit_45 (by decide +kernel) rfl ?_
    refine v_irem fx (iI (vb % 8)) dX8_bit_47 (by decide) (iI_rem (by omega) 8 (by decide) (by decide)) rfl ?_
    refine v_if_ne fx 57 dX8_bit_48 (by decide) rfl (by omega) (fun h_2 => ?_) (fun h_2 => ?_)
    ·
      refine v_aload_n fx 2 dX8_bit_57 rfl rfl ?_
      refine v_get fx 0 13 inX8 k1009 dX8_bit_58 rfl rfl (by decide) rfl rfl rfl ?_
      refine v_iload_n fx 1 dX8_bit_61 rfl rfl ?_
      refine v_iald fx 1 dX8_bit_62 rfl (by omega) (by omega) rfl ?_
      refine v_iload_n fx 3 dX8_bit_63 rfl rfl ?_
      refine v_iload_n fx 0 dX8_bit_64 rfl rfl ?_
      obtain ⟨t_3, et_3⟩ : ∃ x9 : Int32, x <<< ((iI (7 - (vb % 8))) &&& 31) = x9 := ⟨_, rfl⟩
      refine v_ishl fx t_3 dX8_bit_65 et_3 rfl ?_
      refine v_iaddR fx ((f (vb / 8).toNat) + t_3) dX8_bit_66 rfl rfl ?_
      obtain ⟨f_4, ef_4⟩ : ∃ f9 : Nat → Int32, upd f (vb / 8).toNat ((f (vb / 8).toNat) + t_3) = f9 := ⟨_, rfl⟩
      refine v_iast fx 1 f_4 [(h0, ob 8 [.ref xa, .ref xb, .ref xc, .ref xd, .ref xe, .ref xf, .ref xg, .int (iI vc), .int (iI vk), .int (iI vw), .ref xm, .ref xv, .int (iI vg), .ref xw, .int (iI vb), .int (iI vi), .ref xq, .int (iI ve), .int (iI vf), .int (iI vu), .int (iI vl), .ref xr, .ref xh, .ref xo, .ref xp, .int (iI vr), .int (iI va), .int (iI vt), .int (iI vm), .int (iI vd), .int (iI vx)]), (xw, aI g 72000 f_4)] dX8_bit_67 rfl (by omega) (by omega) ef_4 rfl rfl ?_
      refine v_aload_n fx 2 dX8_bit_68 rfl rfl ?_
      refine v_dup fx dX8_bit_69 rfl rfl ?_
      refine v_get fx 0 14 inX8 k1010 dX8_bit_70 rfl rfl (by decide) rfl rfl rfl ?_
      refine v_iconst fx dX8_bit_73 rfl ?_
      refine v_iadd fx (vb + 1) dX8_bit_74 (by rfl) rfl ?_
      refine v_put fx 0 14 [(h0, ob 8 [.ref xa, .ref xb, .ref xc, .ref xd, .ref xe, .ref xf, .ref xg, .int (iI vc), .int (iI vk), .int (iI vw), .ref xm, .ref xv, .int (iI vg), .ref xw, .int (iI (vb + 1)), .int (iI vi), .ref xq, .int (iI ve), .int (iI vf), .int (iI vu), .int (iI vl), .ref xr, .ref xh, .ref xo, .ref xp, .int (iI vr), .int (iI va), .int (iI vt), .int (iI vm), .int (iI vd), .int (iI vx)]), (xw, aI g 72000 f_4)] inX8 tyX8_ok nmX8 k1010 dX8_bit_75 rfl rfl (by decide) rfl rfl rfl rfl (nl rfl) rfl rfl ?_
      exact v_vret fx [(h0, ob 8 [.ref xa, .ref xb, .ref xc, .ref xd, .ref xe, .ref xf, .ref xg, .int (iI vc), .int (iI vk), .int (iI vw), .ref xm, .ref xv, .int (iI vg), .ref xw, .int (iI (vb + 1)), .int (iI vi), .ref xq, .int (iI ve), .int (iI vf), .int (iI vu), .int (iI vl), .ref xr, .ref xh, .ref xo, .ref xp, .int (iI vr), .int (iI va), .int (iI vt), .int (iI vm), .int (iI vd), .int (iI vx)]), (xw, aI g 72000 f_4)] [0, 1] hr dX8_bit_78 rfl rfl (nl rfl) (nl rfl) ⟨f_4, rfl, rfl⟩
    ·
      refine v_iload_n fx 3 dX8_bit_51 rfl rfl ?_
      refine v_iload_n fx 0 dX8_bit_52 rfl rfl ?_
      obtain ⟨t_5, et_5⟩ : ∃ x9 : Int32, x <<< ((iI (7 - (vb % 8))) &&& 31) = x9 := ⟨_, rfl⟩
      refine v_ishl fx t_5 dX8_bit_53 et_5 rfl ?_
      refine v_goto fx 67 dX8_bit_54 (by decide) ?_
      obtain ⟨f_6, ef_6⟩ : ∃ f9 : Nat → Int32, upd f (vb / 8).toNat t_5 = f9 := ⟨_, rfl⟩
      refine v_iast fx 1 f_6 [(h0, ob 8 [.ref xa, .ref xb, .ref xc, .ref xd, .ref xe, .ref xf, .ref xg, .int (iI vc), .int (iI vk), .int (iI vw), .ref xm, .ref xv, .int (iI vg), .ref xw, .int (iI vb), .int (iI vi), .ref xq, .int (iI ve), .int (iI vf), .int (iI vu), .int (iI vl), .ref xr, .ref xh, .ref xo, .ref xp, .int (iI vr), .int (iI va), .int (iI vt), .int (iI vm), .int (iI vd), .int (iI vx)]), (xw, aI g 72000 f_6)] dX8_bit_67 rfl (by omega) (by omega) ef_6 rfl rfl ?_
      refine v_aload_n fx 2 dX8_bit_68 rfl rfl ?_
      refine v_dup fx dX8_bit_69 rfl rfl ?_
      refine v_get fx 0 14 inX8 k1010 dX8_bit_70 rfl rfl (by decide) rfl rfl rfl ?_
      refine v_iconst fx dX8_bit_73 rfl ?_
      refine v_iadd fx (vb + 1) dX8_bit_74 (by rfl) rfl ?_
      refine v_put fx 0 14 [(h0, ob 8 [.ref xa, .ref xb, .ref xc, .ref xd, .ref xe, .ref xf, .ref xg, .int (iI vc), .int (iI vk), .int (iI vw), .ref xm, .ref xv, .int (iI vg), .ref xw, .int (iI (vb + 1)), .int (iI vi), .ref xq, .int (iI ve), .int (iI vf), .int (iI vu), .int (iI vl), .ref xr, .ref xh, .ref xo, .ref xp, .int (iI vr), .int (iI va), .int (iI vt), .int (iI vm), .int (iI vd), .int (iI vx)]), (xw, aI g 72000 f_6)] inX8 tyX8_ok nmX8 k1010 dX8_bit_75 rfl rfl (by decide) rfl rfl rfl rfl (nl rfl) rfl rfl ?_
      exact v_vret fx [(h0, ob 8 [.ref xa, .ref xb, .ref xc, .ref xd, .ref xe, .ref xf, .ref xg, .int (iI vc), .int (iI vk), .int (iI vw), .ref xm, .ref xv, .int (iI vg), .ref xw, .int (iI (vb + 1)), .int (iI vi), .ref xq, .int (iI ve), .int (iI vf), .int (iI vu), .int (iI vl), .ref xr, .ref xh, .ref xo, .ref xp, .int (iI vr), .int (iI va), .int (iI vt), .int (iI vm), .int (iI vd), .int (iI vx)]), (xw, aI g 72000 f_6)] [0, 1] hr dX8_bit_78 rfl rfl (nl rfl) (nl rfl) ⟨f_6, rfl, rfl⟩
  ·
    refine v_aload_n fx 1 dX8_bit_15 rfl rfl ?_
    refine v_get fx 0 14 inX8 k1010 dX8_bit_16 rfl rfl (by decide) rfl rfl rfl ?_
    refine v_bipush fx dX8_bit_19 (by decide +kernel) rfl ?_
    refine v_irem fx (iI (vb % 8)) dX8_bit_21 (by decide) (iI_rem (by omega) 8 (by decide) (by decide)) rfl ?_
    refine v_goto fx 35 dX8_bit_22 (by decide) ?_
    refine v_istore_n fx [(3, .int (iI (vb % 8))), (2, .int (iI (vb / 8))), (0, .ref h0), (1, .int x)] dX8_bit_35 (by decide) rfl rfl ?_
    refine v_aload_n fx 2 dX8_bit_36 rfl rfl ?_
    refine v_get fx 0 13 inX8 k1009 dX8_bit_37 rfl rfl (by decide) rfl rfl rfl ?_
    refine v_iload_n fx 1 dX8_bit_40 rfl rfl ?_
    refine v_aload_n fx 2 dX8_bit_41 rfl rfl ?_
    refine v_get fx 0 14 inX8 k1010 dX8_bit_42 rfl rfl (by decide) rfl rfl rfl ?_
    refine v_bipush fx dX8_bit_45 (by decide +kernel) rfl ?_
    refine v_irem fx (iI (vb % 8)) dX8_bit_47 (by decide) (iI_rem (by omega) 8 (by decide) (by decide)) rfl ?_
    refine v_if_ne fx 57 dX8_bit_48 (by decide) rfl (by omega) (fun h_7 => ?_) (fun h_7 => ?_)
    ·
      refine v_aload_n fx 2 dX8_bit_57 rfl rfl ?_
      refine v_get fx 0 13 inX8 k1009 dX8_bit_58 rfl rfl (by decide) rfl rfl rfl ?_
      refine v_iload_n fx 1 dX8_bit_61 rfl rfl ?_
      refine v_iald fx 1 dX8_bit_62 rfl (by omega) (by omega) rfl ?_
      refine v_iload_n fx 3 dX8_bit_63 rfl rfl ?_
      refine v_iload_n fx 0 dX8_bit_64 rfl rfl ?_
      obtain ⟨t_8, et_8⟩ : ∃ x9 : Int32, x <<< ((iI (vb % 8)) &&& 31) = x9 := ⟨_, rfl⟩
      refine v_ishl fx t_8 dX8_bit_65 et_8 rfl ?_
      refine v_iaddR fx ((f (vb / 8).toNat) + t_8) dX8_bit_66 rfl rfl ?_
      obtain ⟨f_9, ef_9⟩ : ∃ f9 : Nat → Int32, upd f (vb / 8).toNat ((f (vb / 8).toNat) + t_8) = f9 := ⟨_, rfl⟩
      refine v_iast fx 1 f_9 [(h0, ob 8 [.ref xa, .ref xb, .ref xc, .ref xd, .ref xe, .ref xf, .ref xg, .int (iI vc), .int (iI vk), .int (iI vw), .ref xm, .ref xv, .int (iI vg), .ref xw, .int (iI vb), .int (iI vi), .ref xq, .int (iI ve), .int (iI vf), .int (iI vu), .int (iI vl), .ref xr, .ref xh, .ref xo, .ref xp, .int (iI vr), .int (iI va), .int (iI vt), .int (iI vm), .int (iI vd), .int (iI vx)]), (xw, aI g 72000 f_9)] dX8_bit_67 rfl (by omega) (by omega) ef_9 rfl rfl ?_
      refine v_aload_n fx 2 dX8_bit_68 rfl rfl ?_
      refine v_dup fx dX8_bit_69 rfl rfl ?_
      refine v_get fx 0 14 inX8 k1010 dX8_bit_70 rfl rfl (by decide) rfl rfl rfl ?_
      refine v_iconst fx dX8_bit_73 rfl ?_
      refine v_iadd fx (vb + 1) dX8_bit_74 (by rfl) rfl ?_
      refine v_put fx 0 14 [(h0, ob 8 [.ref xa, .ref xb, .ref xc, .ref xd, .ref xe, .ref xf, .ref xg, .int (iI vc), .int (iI vk), .int (iI vw), .ref xm, .ref xv, .int (iI vg), .ref xw, .int (iI (vb + 1)), .int (iI vi), .ref xq, .int (iI ve), .int (iI vf), .int (iI vu), .int (iI vl), .ref xr, .ref xh, .ref xo, .ref xp, .int (iI vr), .int (iI va), .int (iI vt), .int (iI vm), .int (iI vd), .int (iI vx)]), (xw, aI g 72000 f_9)] inX8 tyX8_ok nmX8 k1010 dX8_bit_75 rfl rfl (by decide) rfl rfl rfl rfl (nl rfl) rfl rfl ?_
      exact v_vret fx [(h0, ob 8 [.ref xa, .ref xb, .ref xc, .ref xd, .ref xe, .ref xf, .ref xg, .int (iI vc), .int (iI vk), .int (iI vw), .ref xm, .ref xv, .int (iI vg), .ref xw, .int (iI (vb + 1)), .int (iI vi), .ref xq, .int (iI ve), .int (iI vf), .int (iI vu), .int (iI vl), .ref xr, .ref xh, .ref xo, .ref xp, .int (iI vr), .int (iI va), .int (iI vt), .int (iI vm), .int (iI vd), .int (iI vx)]), (xw, aI g 72000 f_9)] [0, 1] hr dX8_bit_78 rfl rfl (nl rfl) (nl rfl) ⟨f_9, rfl, rfl⟩
    ·
      refine v_iload_n fx 3 dX8_bit_51 rfl rfl ?_
      refine v_iload_n fx 0 dX8_bit_52 rfl rfl ?_
      obtain ⟨t_10, et_10⟩ : ∃ x9 : Int32, x <<< ((iI (vb % 8)) &&& 31) = x9 := ⟨_, rfl⟩
      refine v_ishl fx t_10 dX8_bit_53 et_10 rfl ?_
      refine v_goto fx 67 dX8_bit_54 (by decide) ?_
      obtain ⟨f_11, ef_11⟩ : ∃ f9 : Nat → Int32, upd f (vb / 8).toNat t_10 = f9 := ⟨_, rfl⟩
      refine v_iast fx 1 f_11 [(h0, ob 8 [.ref xa, .ref xb, .ref xc, .ref xd, .ref xe, .ref xf, .ref xg, .int (iI vc), .int (iI vk), .int (iI vw), .ref xm, .ref xv, .int (iI vg), .ref xw, .int (iI vb), .int (iI vi), .ref xq, .int (iI ve), .int (iI vf), .int (iI vu), .int (iI vl), .ref xr, .ref xh, .ref xo, .ref xp, .int (iI vr), .int (iI va), .int (iI vt), .int (iI vm), .int (iI vd), .int (iI vx)]), (xw, aI g 72000 f_11)] dX8_bit_67 rfl (by omega) (by omega) ef_11 rfl rfl ?_
      refine v_aload_n fx 2 dX8_bit_68 rfl rfl ?_
      refine v_dup fx dX8_bit_69 rfl rfl ?_
      refine v_get fx 0 14 inX8 k1010 dX8_bit_70 rfl rfl (by decide) rfl rfl rfl ?_
      refine v_iconst fx dX8_bit_73 rfl ?_
      refine v_iadd fx (vb + 1) dX8_bit_74 (by rfl) rfl ?_
      refine v_put fx 0 14 [(h0, ob 8 [.ref xa, .ref xb, .ref xc, .ref xd, .ref xe, .ref xf, .ref xg, .int (iI vc), .int (iI vk), .int (iI vw), .ref xm, .ref xv, .int (iI vg), .ref xw, .int (iI (vb + 1)), .int (iI vi), .ref xq, .int (iI ve), .int (iI vf), .int (iI vu), .int (iI vl), .ref xr, .ref xh, .ref xo, .ref xp, .int (iI vr), .int (iI va), .int (iI vt), .int (iI vm), .int (iI vd), .int (iI vx)]), (xw, aI g 72000 f_11)] inX8 tyX8_ok nmX8 k1010 dX8_bit_75 rfl rfl (by decide) rfl rfl rfl rfl (nl rfl) rfl rfl ?_
      exact v_vret fx [(h0, ob 8 [.ref xa, .ref xb, .ref xc, .ref xd, .ref xe, .ref xf, .ref xg, .int (iI vc), .int (iI vk), .int (iI vw), .ref xm, .ref xv, .int (iI vg), .ref xw, .int (iI (vb + 1)), .int (iI vi), .ref xq, .int (iI ve), .int (iI vf), .int (iI vu), .int (iI vl), .ref xr, .ref xh, .ref xo, .ref xp, .int (iI vr), .int (iI va), .int (iI vt), .int (iI vm), .int (iI vd), .int (iI vx)]), (xw, aI g 72000 f_11)] [0, 1] hr dX8_bit_78 rfl rfl (nl rfl) (nl rfl) ⟨f_11, rfl, rfl⟩
theorem dX8_number_0 : decode cX8_number 0 = .ok (.iload_n 2, 1) := by decide +kernel
theorem dX8_number_1 : decode cX8_number 1 = .ok (.iconst 1, 1) := by decide +kernel
theorem dX8_number_2 : decode cX8_number 2 = .ok (.isub, 1) := by decide +kernel
theorem dX8_number_3 : decode cX8_number 3 = .ok (.istore_n 3, 1) := by decide +kernel
theorem dX8_number_4 : decode cX8_number 4 = .ok (.iload_n 3, 1) := by decide +kernel
theorem dX8_number_5 : decode cX8_number 5 = .ok (.ifCond .lt 18, 3) := by decide +kernel
theorem dX8_number_8 : decode cX8_number 8 = .ok (.aload_n 0, 1) := by decide +kernel
theorem dX8_number_9 : decode cX8_number 9 = .ok (.iload_n 1, 1) := by decide +kernel
theorem dX8_number_10 : decode cX8_number 10 = .ok (.iload_n 3, 1) := by decide +kernel
theorem dX8_number_11 : decode cX8_number 11 = .ok (.ishr, 1) := by decide +kernel
theorem dX8_number_12 : decode cX8_number 12 = .ok (.iconst 1, 1) := by decide +kernel
theorem dX8_number_13 : decode cX8_number 13 = .ok (.iand, 1) := by decide +kernel
theorem dX8_number_14 : decode cX8_number 14 = .ok (.invokevirtual 79, 3) := by decide +kernel
theorem dX8_number_17 : decode cX8_number 17 = .ok (.iinc 3 (-1), 3) := by decide +kernel
theorem dX8_number_20 : decode cX8_number 20 = .ok (.goto (-16), 3) := by decide +kernel
theorem dX8_number_23 : decode cX8_number 23 = .ok (.return_, 1) := by decide +kernel
abbrev po_c_X8_number (g : GG) (h0 : Nat) (xa : Nat) (xb : Nat) (xc : Nat) (xd : Nat) (xe : Nat) (xf : Nat) (xg : Nat) (xm : Nat) (xv : Nat) (xw : Nat) (xq : Nat) (xr : Nat) (xh : Nat) (xo : Nat) (xp : Nat) (vc : Int) (vk : Int) (vw : Int) (vg : Int) (vb : Int) (vi : Int) (ve : Int) (vf : Int) (vu : Int) (vl : Int) (vr : Int) (va : Int) (vt : Int) (vm : Int) (vd : Int) (vx : Int) (f : Nat → Int32) (x : Int32) (n : Int) : Option Value → va_W → Prop := fun v8 w8 => ∃ b2 : Int, ∃ f2 : Nat → Int32, v8 = none ∧ w8 = [(h0, ob 8 [.ref xa, .ref xb, .ref xc, .ref xd, .ref xe, .ref xf, .ref xg, .int (iI vc), .int (iI vk), .int (iI vw), .ref xm, .ref xv, .int (iI vg), .ref xw, .int (iI b2), .int (iI vi), .ref xq, .int (iI ve), .int (iI vf), .int (iI vu), .int (iI vl), .ref xr, .ref xh, .ref xo, .ref xp, .int (iI vr), .int (iI va), .int (iI vt), .int (iI vm), .int (iI vd), .int (iI vx)]), (xw, aI g 72000 f2)] ∧ (b2 = vb + n)
set_option maxHeartbeats 4000000 in
set_option maxRecDepth 100000 in
theorem c_X8_number (l : Launch) (g : GG) (h0 : Nat) (xa : Nat) (xb : Nat) (xc : Nat) (xd : Nat) (xe : Nat) (xf : Nat) (xg : Nat) (xm : Nat) (xv : Nat) (xw : Nat) (xq : Nat) (xr : Nat) (xh : Nat) (xo : Nat) (xp : Nat) (vc : Int) (vk : Int) (vw : Int) (vg : Int) (vb : Int) (vi : Int) (ve : Int) (vf : Int) (vu : Int) (vl : Int) (vr : Int) (va : Int) (vt : Int) (vm : Int) (vd : Int) (vx : Int) (f : Nat → Int32) (x : Int32) (n : Int) (hp0 : 0 ≤ vb ∧ 0 ≤ n ∧ n ≤ 32 ∧ vb + n ≤ 576000) (hp1 : 0 ≤ vl ∧ vl ≤ 1) : Ct l g yX8_number (wM yX8_number cX8_number 4 none) (rmD 1 0 0) [.ref h0, .int x, .int (iI n)] [(h0, ob 8 [.ref xa, .ref xb, .ref xc, .ref xd, .ref xe, .ref xf, .ref xg, .int (iI vc), .int (iI vk), .int (iI vw), .ref xm, .ref xv, .int (iI vg), .ref xw, .int (iI vb), .int (iI vi), .ref xq, .int (iI ve), .int (iI vf), .int (iI vu), .int (iI vl), .ref xr, .ref xh, .ref xo, .ref xp, .int (iI vr), .int (iI va), .int (iI vt), .int (iI vm), .int (iI vd), .int (iI vx)]), (xw, aI g 72000 f)] (po_c_X8_number g h0 xa xb xc xd xe xf xg xm xv xw xq xr xh xo xp vc vk vw vg vb vi ve vf vu vl vr va vt vm vd vx f x n) := by
  refine Ct_of (by decide +kernel) (Nat.le_of_ble_eq_true rfl) ?_
  intro p9 e9 s9 m9 ag9 bl9 mt9 c9 A9 fx hr hnm
  refine v_iload_n fx 2 dX8_number_0 rfl rfl ?_
  refine v_iconst fx dX8_number_1 rfl ?_
  refine v_isub fx (n - 1) dX8_number_2 (by rfl) rfl ?_
  refine v_istore_n fx [(3, .int (iI (n - 1))), (0, .ref h0), (1, .int x), (2, .int (iI n))] dX8_number_3 (by decide) rfl rfl ?_
  have L4 : ∀ (N : Nat) (i : Int) (b1 : Int) (f1 : Nat → Int32), (-1 ≤ i ∧ i < n) → (b1 + i + 1 = vb + n ∧ vb ≤ b1) → ((i + 1).toNat) < N → V p9 l e9 (rmD 1 0 0) s9 m9 ag9 bl9 mt9 c9 4 g A9 (MQ bl9 (cQ g (po_c_X8_number g h0 xa xb xc xd xe xf xg xm xv xw xq xr xh xo xp vc vk vw vg vb vi ve vf vu vl vr va vt vm vd vx f x n) A9) ag9 s9 0 0 A9) [(h0, ob 8 [.ref xa, .ref xb, .ref xc, .ref xd, .ref xe, .ref xf, .ref xg, .int (iI vc), .int (iI vk), .int (iI vw), .ref xm, .ref xv, .int (iI vg), .ref xw, .int (iI b1), .int (iI vi), .ref xq, .int (iI ve), .int (iI vf), .int (iI vu), .int (iI vl), .ref xr, .ref xh, .ref xo, .ref xp, .int (iI vr), .int (iI va), .int (iI vt), .int (iI vm), .int (iI vd), .int (iI vx)]), (xw, aI g 72000 f1)] 0 0 [(0, .ref h0), (1, .int x), (2, .int (iI n)), (3, .int (iI i))] 4 [] := by
    intro N
    induction N with
    | zero => intro i b1 f1 hi4_0 hi4_1 hN; exact absurd hN (Nat.not_lt_zero _)
    | succ N ihL4 =>
      intro i b1 f1 hi4_0 hi4_1 hN4
      refine v_iload_n fx 3 dX8_number_4 rfl rfl ?_
      refine v_if_lt fx 23 dX8_number_5 (by decide) rfl (by omega) (fun h_1 => ?_) (fun h_1 => ?_)
      ·
        exact v_vret fx [(h0, ob 8 [.ref xa, .ref xb, .ref xc, .ref xd, .ref xe, .ref xf, .ref xg, .int (iI vc), .int (iI vk), .int (iI vw), .ref xm, .ref xv, .int (iI vg), .ref xw, .int (iI b1), .int (iI vi), .ref xq, .int (iI ve), .int (iI vf), .int (iI vu), .int (iI vl), .ref xr, .ref xh, .ref xo, .ref xp, .int (iI vr), .int (iI va), .int (iI vt), .int (iI vm), .int (iI vd), .int (iI vx)]), (xw, aI g 72000 f1)] [0, 1] hr dX8_number_23 rfl rfl (nl rfl) (nl rfl) ⟨b1, f1, rfl, rfl, (by first | omega | rfl | assumption)⟩
      ·
        refine v_aload_n fx 0 dX8_number_8 rfl rfl ?_
        refine v_iload_n fx 1 dX8_number_9 rfl rfl ?_
        refine v_iload_n fx 3 dX8_number_10 rfl rfl ?_
        obtain ⟨t_2, et_2⟩ : ∃ x9 : Int32, x >>> ((iI i) &&& 31) = x9 := ⟨_, rfl⟩
        refine v_ishr fx t_2 dX8_number_11 et_2 rfl ?_
        refine v_iconst fx dX8_number_12 rfl ?_
        obtain ⟨t_3, et_3⟩ : ∃ x9 : Int32, t_2 &&& (iI 1) = x9 := ⟨_, rfl⟩
        refine v_iand fx t_3 dX8_number_13 et_3 rfl ?_
        refine v_callV (As := [.int t_3]) (rest := []) fx [0, 1] [] [(h0, ob 8 [.ref xa, .ref xb, .ref xc, .ref xd, .ref xe, .ref xf, .ref xg, .int (iI vc), .int (iI vk), .int (iI vw), .ref xm, .ref xv, .int (iI vg), .ref xw, .int (iI b1), .int (iI vi), .ref xq, .int (iI ve), .int (iI vf), .int (iI vu), .int (iI vl), .ref xr, .ref xh, .ref xo, .ref xp, .int (iI vr), .int (iI va), .int (iI vt), .int (iI vm), .int (iI vd), .int (iI vx)]), (xw, aI g 72000 f1)] [] 1 0 (c_X8_bit l g h0 xa xb xc xd xe xf xg xm xv xw xq xr xh xo xp vc vk vw vg b1 vi ve vf vu vl vr va vt vm vd vx f1 t_3 (by first | omega | decide | assumption) (by first | omega | decide | assumption)) dX8_number_14 k1110 k1112 k23 k57 k1113 ykX8_bit rfl rfl rfl rfl rfl rfl rfl rfl (nl rfl) ⟨nl rfl, nl rfl⟩ ⟨(nl rfl), (nl rfl)⟩ rfl (fun v9 w9 hu => ?_)
        obtain ⟨f2_4, rfl, rfl⟩ := hu
        refine v_is (wn := [(h0, ob 8 [.ref xa, .ref xb, .ref xc, .ref xd, .ref xe, .ref xf, .ref xg, .int (iI vc), .int (iI vk), .int (iI vw), .ref xm, .ref xv, .int (iI vg), .ref xw, .int (iI (b1 + 1)), .int (iI vi), .ref xq, .int (iI ve), .int (iI vf), .int (iI vu), .int (iI vl), .ref xr, .ref xh, .ref xo, .ref xp, .int (iI vr), .int (iI va), .int (iI vt), .int (iI vm), .int (iI vd), .int (iI vx)]), (xw, aI g 72000 f2_4)]) (cn := 0) (sn := 0) (sn2 := []) rfl rfl rfl rfl ?_
        refine v_iinc fx 3 (i - 1) [(3, .int (iI (i - 1))), (0, .ref h0), (1, .int x), (2, .int (iI n))] dX8_number_17 rfl (by omega) (by decide) rfl rfl ?_
        refine v_goto fx 4 dX8_number_20 (by decide) ?_
        refine v_lv [1, 2, 3, 0] [(0, .ref h0), (1, .int x), (2, .int (iI n)), (3, .int (iI (i - 1)))] rfl ?_
        exact ihL4 (i - 1) (b1 + 1) f2_4 (by omega) (by omega) (by omega)
  refine v_lv [1, 2, 3, 0] [(0, .ref h0), (1, .int x), (2, .int (iI n)), (3, .int (iI (n - 1)))] rfl ?_
  exact L4 _ (n - 1) vb f (by omega) (by omega) (Nat.lt_succ_self _)
theorem dX8_mark_0 : decode cX8_mark 0 = .ok (.aload_n 0, 1) := by decide +kernel
theorem dX8_mark_1 : decode cX8_mark 1 = .ok (.iconst 1, 1) := by decide +kernel
theorem dX8_mark_2 : decode cX8_mark 2 = .ok (.bipush 12, 2) := by decide +kernel
theorem dX8_mark_4 : decode cX8_mark 4 = .ok (.invokevirtual 83, 3) := by decide +kernel
theorem dX8_mark_7 : decode cX8_mark 7 = .ok (.return_, 1) := by decide +kernel
abbrev po_c_X8_mark (g : GG) (h0 : Nat) (xa : Nat) (xb : Nat) (xc : Nat) (xd : Nat) (xe : Nat) (xf : Nat) (xg : Nat) (xm : Nat) (xv : Nat) (xw : Nat) (xq : Nat) (xr : Nat) (xh : Nat) (xo : Nat) (xp : Nat) (vc : Int) (vk : Int) (vw : Int) (vg : Int) (vb : Int) (vi : Int) (ve : Int) (vf : Int) (vu : Int) (vl : Int) (vr : Int) (va : Int) (vt : Int) (vm : Int) (vd : Int) (vx : Int) (f : Nat → Int32) : Option Value → va_W → Prop := fun v8 w8 => ∃ b2 : Int, ∃ f2 : Nat → Int32, v8 = none ∧ w8 = [(h0, ob 8 [.ref xa, .ref xb, .ref xc, .ref xd, .ref xe, .ref xf, .ref xg, .int (iI vc), .int (iI vk), .int (iI vw), .ref xm, .ref xv, .int (iI vg), .ref xw, .int (iI b2), .int (iI vi), .ref xq, .int (iI ve), .int (iI vf), .int (iI vu), .int (iI vl), .ref xr, .ref xh, .ref xo, .ref xp, .int (iI vr), .int (iI va), .int (iI vt), .int (iI vm), .int (iI vd), .int (iI vx)]), (xw, aI g 72000 f2)] ∧ (b2 = vb + 12)
set_option maxHeartbeats 4000000 in
set_option maxRecDepth 100000 in
theorem c_X8_mark (l : Launch) (g : GG) (h0 : Nat) (xa : Nat) (xb : Nat) (xc : Nat) (xd : Nat) (xe : Nat) (xf : Nat) (xg : Nat) (xm : Nat) (xv : Nat) (xw : Nat) (xq : Nat) (xr : Nat) (xh : Nat) (xo : Nat) (xp : Nat) (vc : Int) (vk : Int) (vw : Int) (vg : Int) (vb : Int) (vi : Int) (ve : Int) (vf : Int) (vu : Int) (vl : Int) (vr : Int) (va : Int) (vt : Int) (vm : Int) (vd : Int) (vx : Int) (f : Nat → Int32) (hp0 : 0 ≤ vb ∧ vb + 12 ≤ 576000) (hp1 : 0 ≤ vl ∧ vl ≤ 1) : Ct l g yX8_mark (wM yX8_mark cX8_mark 1 none) (rmD 2 0 0) [.ref h0] [(h0, ob 8 [.ref xa, .ref xb, .ref xc, .ref xd, .ref xe, .ref xf, .ref xg, .int (iI vc), .int (iI vk), .int (iI vw), .ref xm, .ref xv, .int (iI vg), .ref xw, .int (iI vb), .int (iI vi), .ref xq, .int (iI ve), .int (iI vf), .int (iI vu), .int (iI vl), .ref xr, .ref xh, .ref xo, .ref xp, .int (iI vr), .int (iI va), .int (iI vt), .int (iI vm), .int (iI vd), .int (iI vx)]), (xw, aI g 72000 f)] (po_c_X8_mark g h0 xa xb xc xd xe xf xg xm xv xw xq xr xh xo xp vc vk vw vg vb vi ve vf vu vl vr va vt vm vd vx f) := by
  refine Ct_of (by decide +kernel) (Nat.le_of_ble_eq_true rfl) ?_
  intro p9 e9 s9 m9 ag9 bl9 mt9 c9 A9 fx hr hnm
  refine v_aload_n fx 0 dX8_mark_0 rfl rfl ?_
  refine v_iconst fx dX8_mark_1 rfl ?_
  refine v_bipush fx dX8_mark_2 (by decide +kernel) rfl ?_
  refine v_callV (As := [.int (iI 1), .int (iI 12)]) (rest := []) fx [0, 1] [] [(h0, ob 8 [.ref xa, .ref xb, .ref xc, .ref xd, .ref xe, .ref xf, .ref xg, .int (iI vc), .int (iI vk), .int (iI vw), .ref xm, .ref xv, .int (iI vg), .ref xw, .int (iI vb), .int (iI vi), .ref xq, .int (iI ve), .int (iI vf), .int (iI vu), .int (iI vl), .ref xr, .ref xh, .ref xo, .ref xp, .int (iI vr), .int (iI va), .int (iI vt), .int (iI vm), .int (iI vd), .int (iI vx)]), (xw, aI g 72000 f)] [] 2 0 (c_X8_number l g h0 xa xb xc xd xe xf xg xm xv xw xq xr xh xo xp vc vk vw vg vb vi ve vf vu vl vr va vt vm vd vx f (iI 1) 12 (by first | omega | decide | assumption) (by first | omega | decide | assumption)) dX8_mark_4 k1106 k1108 k22 k57 k1109 ykX8_number rfl rfl rfl rfl rfl rfl rfl rfl (nl rfl) ⟨nl rfl, nl rfl⟩ ⟨(nl rfl), (nl rfl)⟩ rfl (fun v9 w9 hu => ?_)
  obtain ⟨b2_1, f2_2, rfl, rfl, u_3⟩ := hu
  refine v_is (wn := [(h0, ob 8 [.ref xa, .ref xb, .ref xc, .ref xd, .ref xe, .ref xf, .ref xg, .int (iI vc), .int (iI vk), .int (iI vw), .ref xm, .ref xv, .int (iI vg), .ref xw, .int (iI b2_1), .int (iI vi), .ref xq, .int (iI ve), .int (iI vf), .int (iI vu), .int (iI vl), .ref xr, .ref xh, .ref xo, .ref xp, .int (iI vr), .int (iI va), .int (iI vt), .int (iI vm), .int (iI vd), .int (iI vx)]), (xw, aI g 72000 f2_2)]) (cn := 0) (sn := 0) (sn2 := []) rfl rfl rfl rfl ?_
  exact v_vret fx [(h0, ob 8 [.ref xa, .ref xb, .ref xc, .ref xd, .ref xe, .ref xf, .ref xg, .int (iI vc), .int (iI vk), .int (iI vw), .ref xm, .ref xv, .int (iI vg), .ref xw, .int (iI b2_1), .int (iI vi), .ref xq, .int (iI ve), .int (iI vf), .int (iI vu), .int (iI vl), .ref xr, .ref xh, .ref xo, .ref xp, .int (iI vr), .int (iI va), .int (iI vt), .int (iI vm), .int (iI vd), .int (iI vx)]), (xw, aI g 72000 f2_2)] [0, 1] hr dX8_mark_7 rfl rfl (nl rfl) (nl rfl) ⟨b2_1, f2_2, rfl, rfl, (by first | omega | rfl | assumption)⟩
theorem dX8_write_0 : decode cX8_write 0 = .ok (.iconst 0, 1) := by decide +kernel
theorem dX8_write_1 : decode cX8_write 1 = .ok (.istore_n 2, 1) := by decide +kernel
theorem dX8_write_2 : decode cX8_write 2 = .ok (.iload_n 1, 1) := by decide +kernel
theorem dX8_write_3 : decode cX8_write 3 = .ok (.iload_n 2, 1) := by decide +kernel
theorem dX8_write_4 : decode cX8_write 4 = .ok (.iconst 1, 1) := by decide +kernel
theorem dX8_write_5 : decode cX8_write 5 = .ok (.iadd, 1) := by decide +kernel
theorem dX8_write_6 : decode cX8_write 6 = .ok (.ishr, 1) := by decide +kernel
theorem dX8_write_7 : decode cX8_write 7 = .ok (.ifCond .eq 9, 3) := by decide +kernel
theorem dX8_write_10 : decode cX8_write 10 = .ok (.iinc 2 1, 3) := by decide +kernel
theorem dX8_write_13 : decode cX8_write 13 = .ok (.goto (-11), 3) := by decide +kernel
theorem dX8_write_16 : decode cX8_write 16 = .ok (.aload_n 0, 1) := by decide +kernel
theorem dX8_write_17 : decode cX8_write 17 = .ok (.iload_n 1, 1) := by decide +kernel
theorem dX8_write_18 : decode cX8_write 18 = .ok (.iload_n 2, 1) := by decide +kernel
theorem dX8_write_19 : decode cX8_write 19 = .ok (.invokevirtual 83, 3) := by decide +kernel
theorem dX8_write_22 : decode cX8_write 22 = .ok (.return_, 1) := by decide +kernel
abbrev po_c_X8_write (g : GG) (h0 : Nat) (xa : Nat) (xb : Nat) (xc : Nat) (xd : Nat) (xe : Nat) (xf : Nat) (xg : Nat) (xm : Nat) (xv : Nat) (xw : Nat) (xq : Nat) (xr : Nat) (xh : Nat) (xo : Nat) (xp : Nat) (vc : Int) (vk : Int) (vw : Int) (vg : Int) (vb : Int) (vi : Int) (ve : Int) (vf : Int) (vu : Int) (vl : Int) (vr : Int) (va : Int) (vt : Int) (vm : Int) (vd : Int) (vx : Int) (f : Nat → Int32) (x : Int) : Option Value → va_W → Prop := fun v8 w8 => ∃ b2 : Int, ∃ f2 : Nat → Int32, v8 = none ∧ w8 = [(h0, ob 8 [.ref xa, .ref xb, .ref xc, .ref xd, .ref xe, .ref xf, .ref xg, .int (iI vc), .int (iI vk), .int (iI vw), .ref xm, .ref xv, .int (iI vg), .ref xw, .int (iI b2), .int (iI vi), .ref xq, .int (iI ve), .int (iI vf), .int (iI vu), .int (iI vl), .ref xr, .ref xh, .ref xo, .ref xp, .int (iI vr), .int (iI va), .int (iI vt), .int (iI vm), .int (iI vd), .int (iI vx)]), (xw, aI g 72000 f2)] ∧ (b2 = vb + (clen x : Int))
set_option maxHeartbeats 4000000 in
set_option maxRecDepth 100000 in
theorem c_X8_write (l : Launch) (g : GG) (h0 : Nat) (xa : Nat) (xb : Nat) (xc : Nat) (xd : Nat) (xe : Nat) (xf : Nat) (xg : Nat) (xm : Nat) (xv : Nat) (xw : Nat) (xq : Nat) (xr : Nat) (xh : Nat) (xo : Nat) (xp : Nat) (vc : Int) (vk : Int) (vw : Int) (vg : Int) (vb : Int) (vi : Int) (ve : Int) (vf : Int) (vu : Int) (vl : Int) (vr : Int) (va : Int) (vt : Int) (vm : Int) (vd : Int) (vx : Int) (f : Nat → Int32) (x : Int) (hp0 : 0 ≤ vb ∧ vb + 13 ≤ 576000) (hp1 : 0 ≤ vl ∧ vl ≤ 1) (hp2 : 1 ≤ x ∧ x < 16384) : Ct l g yX8_write (wM yX8_write cX8_write 3 none) (rmD 2 0 0) [.ref h0, .int (iI x)] [(h0, ob 8 [.ref xa, .ref xb, .ref xc, .ref xd, .ref xe, .ref xf, .ref xg, .int (iI vc), .int (iI vk), .int (iI vw), .ref xm, .ref xv, .int (iI vg), .ref xw, .int (iI vb), .int (iI vi), .ref xq, .int (iI ve), .int (iI vf), .int (iI vu), .int (iI vl), .ref xr, .ref xh, .ref xo, .ref xp, .int (iI vr), .int (iI va), .int (iI vt), .int (iI vm), .int (iI vd), .int (iI vx)]), (xw, aI g 72000 f)] (po_c_X8_write g h0 xa xb xc xd xe xf xg xm xv xw xq xr xh xo xp vc vk vw vg vb vi ve vf vu vl vr va vt vm vd vx f x) := by
  refine Ct_of (by decide +kernel) (Nat.le_of_ble_eq_true rfl) ?_
  intro p9 e9 s9 m9 ag9 bl9 mt9 c9 A9 fx hr hnm
  have hcl := clen13 hp2
  refine v_iconst fx dX8_write_0 rfl ?_
  refine v_istore_n fx [(2, .int (iI 0)), (0, .ref h0), (1, .int (iI x))] dX8_write_1 (by decide) rfl rfl ?_
  have L2 : ∀ (N : Nat) (n : Int), (((2 ^ n.toNat : Nat) : Int) ≤ x) → (0 ≤ n ∧ n ≤ 13) → ((14 - n).toNat) < N → V p9 l e9 (rmD 2 0 0) s9 m9 ag9 bl9 mt9 c9 3 g A9 (MQ bl9 (cQ g (po_c_X8_write g h0 xa xb xc xd xe xf xg xm xv xw xq xr xh xo xp vc vk vw vg vb vi ve vf vu vl vr va vt vm vd vx f x) A9) ag9 s9 0 0 A9) [(h0, ob 8 [.ref xa, .ref xb, .ref xc, .ref xd, .ref xe, .ref xf, .ref xg, .int (iI vc), .int (iI vk), .int (iI vw), .ref xm, .ref xv, .int (iI vg), .ref xw, .int (iI vb), .int (iI vi), .ref xq, .int (iI ve), .int (iI vf), .int (iI vu), .int (iI vl), .ref xr, .ref xh, .ref xo, .ref xp, .int (iI vr), .int (iI va), .int (iI vt), .int (iI vm), .int (iI vd), .int (iI vx)]), (xw, aI g 72000 f)] 0 0 [(0, .ref h0), (1, .int (iI x)), (2, .int (iI n))] 2 [] := by
    intro N
    induction N with
    | zero => intro n hi2_0 hi2_1 hN; exact absurd hN (Nat.not_lt_zero _)
    | succ N ihL2 =>
      intro n hi2_0 hi2_1 hN2
      refine v_iload_n fx 1 dX8_write_2 rfl rfl ?_
      refine v_iload_n fx 2 dX8_write_3 rfl rfl ?_
      refine v_iconst fx dX8_write_4 rfl ?_
      refine v_iadd fx (n + 1) dX8_write_5 (by rfl) rfl ?_
      refine v_ishr fx (iI (x / ((2 ^ (n.toNat + 1) : Nat) : Int))) dX8_write_6 (shr_v (by omega) hi2_1) rfl ?_
      refine v_if_eq fx 16 dX8_write_7 (by decide) rfl (by exact shr_b (by omega)) (fun h_1 => ?_) (fun h_1 => ?_)
      ·
        have hcl2 := clen_is hi2_0 (shr_0 (by omega) h_1)
        refine v_aload_n fx 0 dX8_write_16 rfl rfl ?_
        refine v_iload_n fx 1 dX8_write_17 rfl rfl ?_
        refine v_iload_n fx 2 dX8_write_18 rfl rfl ?_
        refine v_callV (As := [.int (iI x), .int (iI n)]) (rest := []) fx [0, 1] [] [(h0, ob 8 [.ref xa, .ref xb, .ref xc, .ref xd, .ref xe, .ref xf, .ref xg, .int (iI vc), .int (iI vk), .int (iI vw), .ref xm, .ref xv, .int (iI vg), .ref xw, .int (iI vb), .int (iI vi), .ref xq, .int (iI ve), .int (iI vf), .int (iI vu), .int (iI vl), .ref xr, .ref xh, .ref xo, .ref xp, .int (iI vr), .int (iI va), .int (iI vt), .int (iI vm), .int (iI vd), .int (iI vx)]), (xw, aI g 72000 f)] [] 2 0 (c_X8_number l g h0 xa xb xc xd xe xf xg xm xv xw xq xr xh xo xp vc vk vw vg vb vi ve vf vu vl vr va vt vm vd vx f (iI x) n (by first | omega | decide | assumption) (by first | omega | decide | assumption)) dX8_write_19 k1106 k1108 k22 k57 k1109 ykX8_number rfl rfl rfl rfl rfl rfl rfl rfl (nl rfl) ⟨nl rfl, nl rfl⟩ ⟨(nl rfl), (nl rfl)⟩ rfl (fun v9 w9 hu => ?_)
        obtain ⟨b2_2, f2_3, rfl, rfl, u_4⟩ := hu
        refine v_is (wn := [(h0, ob 8 [.ref xa, .ref xb, .ref xc, .ref xd, .ref xe, .ref xf, .ref xg, .int (iI vc), .int (iI vk), .int (iI vw), .ref xm, .ref xv, .int (iI vg), .ref xw, .int (iI b2_2), .int (iI vi), .ref xq, .int (iI ve), .int (iI vf), .int (iI vu), .int (iI vl), .ref xr, .ref xh, .ref xo, .ref xp, .int (iI vr), .int (iI va), .int (iI vt), .int (iI vm), .int (iI vd), .int (iI vx)]), (xw, aI g 72000 f2_3)]) (cn := 0) (sn := 0) (sn2 := []) rfl rfl rfl rfl ?_
        exact v_vret fx [(h0, ob 8 [.ref xa, .ref xb, .ref xc, .ref xd, .ref xe, .ref xf, .ref xg, .int (iI vc), .int (iI vk), .int (iI vw), .ref xm, .ref xv, .int (iI vg), .ref xw, .int (iI b2_2), .int (iI vi), .ref xq, .int (iI ve), .int (iI vf), .int (iI vu), .int (iI vl), .ref xr, .ref xh, .ref xo, .ref xp, .int (iI vr), .int (iI va), .int (iI vt), .int (iI vm), .int (iI vd), .int (iI vx)]), (xw, aI g 72000 f2_3)] [0, 1] hr dX8_write_22 rfl rfl (nl rfl) (nl rfl) ⟨b2_2, f2_3, rfl, rfl, (by omega)⟩
      ·
        have hsn := shr_n (by omega) h_1
        refine v_iinc fx 2 (n + 1) [(2, .int (iI (n + 1))), (0, .ref h0), (1, .int (iI x))] dX8_write_10 rfl (by omega) (by decide) rfl rfl ?_
        refine v_goto fx 2 dX8_write_13 (by decide) ?_
        refine v_lv [1, 2, 0] [(0, .ref h0), (1, .int (iI x)), (2, .int (iI (n + 1)))] rfl ?_
        exact ihL2 (n + 1) (by rw [show (n + 1).toNat = n.toNat + 1 by omega]; exact hsn) (by have := pw_le hsn (by omega); omega) (by omega)
  refine v_lv [1, 2, 0] [(0, .ref h0), (1, .int (iI x)), (2, .int (iI 0))] rfl ?_
  exact L2 _ 0 (by show (1 : Int) ≤ x; omega) (by omega) (Nat.lt_succ_self _)
theorem dX8_run_0 : decode cX8_run 0 = .ok (.iload_n 1, 1) := by decide +kernel
theorem dX8_run_1 : decode cX8_run 1 = .ok (.istore_n 3, 1) := by decide +kernel
theorem dX8_run_2 : decode cX8_run 2 = .ok (.iload_n 3, 1) := by decide +kernel
theorem dX8_run_3 : decode cX8_run 3 = .ok (.sipush 2560, 3) := by decide +kernel
theorem dX8_run_6 : decode cX8_run 6 = .ok (.if_icmp .lt 23, 3) := by decide +kernel
theorem dX8_run_9 : decode cX8_run 9 = .ok (.aload_n 0, 1) := by decide +kernel
theorem dX8_run_10 : decode cX8_run 10 = .ok (.aload_n 0, 1) := by decide +kernel
theorem dX8_run_11 : decode cX8_run 11 = .ok (.getfield 22, 3) := by decide +kernel
theorem dX8_run_14 : decode cX8_run 14 = .ok (.bipush 12, 2) := by decide +kernel
theorem dX8_run_16 : decode cX8_run 16 = .ok (.iaload, 1) := by decide +kernel
theorem dX8_run_17 : decode cX8_run 17 = .ok (.invokevirtual 87, 3) := by decide +kernel
theorem dX8_run_20 : decode cX8_run 20 = .ok (.iinc 3 (-2560), 6) := by decide +kernel
theorem dX8_run_26 : decode cX8_run 26 = .ok (.goto (-24), 3) := by decide +kernel
theorem dX8_run_29 : decode cX8_run 29 = .ok (.iload_n 3, 1) := by decide +kernel
theorem dX8_run_30 : decode cX8_run 30 = .ok (.sipush 1792, 3) := by decide +kernel
theorem dX8_run_33 : decode cX8_run 33 = .ok (.if_icmp .lt 22, 3) := by decide +kernel
theorem dX8_run_36 : decode cX8_run 36 = .ok (.aload_n 0, 1) := by decide +kernel
theorem dX8_run_37 : decode cX8_run 37 = .ok (.aload_n 0, 1) := by decide +kernel
theorem dX8_run_38 : decode cX8_run 38 = .ok (.getfield 22, 3) := by decide +kernel
theorem dX8_run_41 : decode cX8_run 41 = .ok (.iload_n 3, 1) := by decide +kernel
theorem dX8_run_42 : decode cX8_run 42 = .ok (.bipush 64, 2) := by decide +kernel
theorem dX8_run_44 : decode cX8_run 44 = .ok (.idiv, 1) := by decide +kernel
theorem dX8_run_45 : decode cX8_run 45 = .ok (.bipush 28, 2) := by decide +kernel
theorem dX8_run_47 : decode cX8_run 47 = .ok (.isub, 1) := by decide +kernel
theorem dX8_run_48 : decode cX8_run 48 = .ok (.iaload, 1) := by decide +kernel
theorem dX8_run_49 : decode cX8_run 49 = .ok (.invokevirtual 87, 3) := by decide +kernel
theorem dX8_run_52 : decode cX8_run 52 = .ok (.goto 42, 3) := by decide +kernel
theorem dX8_run_55 : decode cX8_run 55 = .ok (.iload_n 3, 1) := by decide +kernel
theorem dX8_run_56 : decode cX8_run 56 = .ok (.bipush 64, 2) := by decide +kernel
theorem dX8_run_58 : decode cX8_run 58 = .ok (.if_icmp .lt 36, 3) := by decide +kernel
theorem dX8_run_61 : decode cX8_run 61 = .ok (.aload_n 0, 1) := by decide +kernel
theorem dX8_run_62 : decode cX8_run 62 = .ok (.iload_n 2, 1) := by decide +kernel
theorem dX8_run_63 : decode cX8_run 63 = .ok (.ifCond .eq 17, 3) := by decide +kernel
theorem dX8_run_66 : decode cX8_run 66 = .ok (.aload_n 0, 1) := by decide +kernel
theorem dX8_run_67 : decode cX8_run 67 = .ok (.getfield 19, 3) := by decide +kernel
theorem dX8_run_70 : decode cX8_run 70 = .ok (.iload_n 3, 1) := by decide +kernel
theorem dX8_run_71 : decode cX8_run 71 = .ok (.bipush 64, 2) := by decide +kernel
theorem dX8_run_73 : decode cX8_run 73 = .ok (.idiv, 1) := by decide +kernel
theorem dX8_run_74 : decode cX8_run 74 = .ok (.iconst 1, 1) := by decide +kernel
theorem dX8_run_75 : decode cX8_run 75 = .ok (.isub, 1) := by decide +kernel
theorem dX8_run_76 : decode cX8_run 76 = .ok (.iaload, 1) := by decide +kernel
theorem dX8_run_77 : decode cX8_run 77 = .ok (.goto 14, 3) := by decide +kernel
theorem dX8_run_80 : decode cX8_run 80 = .ok (.aload_n 0, 1) := by decide +kernel
theorem dX8_run_81 : decode cX8_run 81 = .ok (.getfield 16, 3) := by decide +kernel
theorem dX8_run_84 : decode cX8_run 84 = .ok (.iload_n 3, 1) := by decide +kernel
theorem dX8_run_85 : decode cX8_run 85 = .ok (.bipush 64, 2) := by decide +kernel
theorem dX8_run_87 : decode cX8_run 87 = .ok (.idiv, 1) := by decide +kernel
theorem dX8_run_88 : decode cX8_run 88 = .ok (.iconst 1, 1) := by decide +kernel
theorem dX8_run_89 : decode cX8_run 89 = .ok (.isub, 1) := by decide +kernel
theorem dX8_run_90 : decode cX8_run 90 = .ok (.iaload, 1) := by decide +kernel
theorem dX8_run_91 : decode cX8_run 91 = .ok (.invokevirtual 87, 3) := by decide +kernel
theorem dX8_run_94 : decode cX8_run 94 = .ok (.aload_n 0, 1) := by decide +kernel
theorem dX8_run_95 : decode cX8_run 95 = .ok (.iload_n 2, 1) := by decide +kernel
theorem dX8_run_96 : decode cX8_run 96 = .ok (.ifCond .eq 15, 3) := by decide +kernel
theorem dX8_run_99 : decode cX8_run 99 = .ok (.aload_n 0, 1) := by decide +kernel
theorem dX8_run_100 : decode cX8_run 100 = .ok (.getfield 13, 3) := by decide +kernel
theorem dX8_run_103 : decode cX8_run 103 = .ok (.iload_n 3, 1) := by decide +kernel
theorem dX8_run_104 : decode cX8_run 104 = .ok (.bipush 64, 2) := by decide +kernel
theorem dX8_run_106 : decode cX8_run 106 = .ok (.irem, 1) := by decide +kernel
theorem dX8_run_107 : decode cX8_run 107 = .ok (.iaload, 1) := by decide +kernel
theorem dX8_run_108 : decode cX8_run 108 = .ok (.goto 12, 3) := by decide +kernel
theorem dX8_run_111 : decode cX8_run 111 = .ok (.aload_n 0, 1) := by decide +kernel
theorem dX8_run_112 : decode cX8_run 112 = .ok (.getfield 7, 3) := by decide +kernel
theorem dX8_run_115 : decode cX8_run 115 = .ok (.iload_n 3, 1) := by decide +kernel
theorem dX8_run_116 : decode cX8_run 116 = .ok (.bipush 64, 2) := by decide +kernel
theorem dX8_run_118 : decode cX8_run 118 = .ok (.irem, 1) := by decide +kernel
theorem dX8_run_119 : decode cX8_run 119 = .ok (.iaload, 1) := by decide +kernel
theorem dX8_run_120 : decode cX8_run 120 = .ok (.invokevirtual 87, 3) := by decide +kernel
theorem dX8_run_123 : decode cX8_run 123 = .ok (.return_, 1) := by decide +kernel
abbrev po_c_X8_run (g : GG) (h0 : Nat) (xa : Nat) (xb : Nat) (xc : Nat) (xd : Nat) (xe : Nat) (xf : Nat) (xg : Nat) (xm : Nat) (xv : Nat) (xw : Nat) (xq : Nat) (xr : Nat) (xh : Nat) (xo : Nat) (xp : Nat) (vc : Int) (vk : Int) (vw : Int) (vg : Int) (vb : Int) (vi : Int) (ve : Int) (vf : Int) (vu : Int) (vl : Int) (vr : Int) (va : Int) (vt : Int) (vm : Int) (vd : Int) (vx : Int) (f : Nat → Int32) (x : Int) (bk : Int) : Option Value → va_W → Prop := fun v8 w8 => ∃ b2 : Int, ∃ f2 : Nat → Int32, v8 = none ∧ w8 = [(h0, ob 8 [.ref xa, .ref xb, .ref xc, .ref xd, .ref xe, .ref xf, .ref xg, .int (iI vc), .int (iI vk), .int (iI vw), .ref xm, .ref xv, .int (iI vg), .ref xw, .int (iI b2), .int (iI vi), .ref xq, .int (iI ve), .int (iI vf), .int (iI vu), .int (iI vl), .ref xr, .ref xh, .ref xo, .ref xp, .int (iI vr), .int (iI va), .int (iI vt), .int (iI vm), .int (iI vd), .int (iI vx)]), (xw, aI g 72000 f2), (xa, aI g 64 (lfT mW 64)), (xb, aI g 64 (lfT mB 64)), (xc, aI g 27 (lfT mWM 27)), (xd, aI g 27 (lfT mBM 27)), (xe, aI g 13 (lfT mBO 13))] ∧ (vb ≤ b2) ∧ ((x = 0 ∧ b2 ≤ vb + 10) ∨ (1 ≤ x ∧ b2 ≤ vb + 7 * x - 1 - bk))
set_option maxHeartbeats 4000000 in
set_option maxRecDepth 100000 in
theorem c_X8_run (l : Launch) (g : GG) (h0 : Nat) (xa : Nat) (xb : Nat) (xc : Nat) (xd : Nat) (xe : Nat) (xf : Nat) (xg : Nat) (xm : Nat) (xv : Nat) (xw : Nat) (xq : Nat) (xr : Nat) (xh : Nat) (xo : Nat) (xp : Nat) (vc : Int) (vk : Int) (vw : Int) (vg : Int) (vb : Int) (vi : Int) (ve : Int) (vf : Int) (vu : Int) (vl : Int) (vr : Int) (va : Int) (vt : Int) (vm : Int) (vd : Int) (vx : Int) (f : Nat → Int32) (x : Int) (bk : Int) (hp0 : 0 ≤ vb ∧ vb + 40 ≤ 576000) (hp1 : 0 ≤ vl ∧ vl ≤ 1) (hp2 : 0 ≤ x ∧ x ≤ 3000) (hp3 : 0 ≤ bk ∧ bk ≤ 1) : Ct l g yX8_run (wM yX8_run cX8_run 4 none) (rmD 3 0 0) [.ref h0, .int (iI x), .int (iI bk)] [(h0, ob 8 [.ref xa, .ref xb, .ref xc, .ref xd, .ref xe, .ref xf, .ref xg, .int (iI vc), .int (iI vk), .int (iI vw), .ref xm, .ref xv, .int (iI vg), .ref xw, .int (iI vb), .int (iI vi), .ref xq, .int (iI ve), .int (iI vf), .int (iI vu), .int (iI vl), .ref xr, .ref xh, .ref xo, .ref xp, .int (iI vr), .int (iI va), .int (iI vt), .int (iI vm), .int (iI vd), .int (iI vx)]), (xw, aI g 72000 f), (xa, aI g 64 (lfT mW 64)), (xb, aI g 64 (lfT mB 64)), (xc, aI g 27 (lfT mWM 27)), (xd, aI g 27 (lfT mBM 27)), (xe, aI g 13 (lfT mBO 13))] (po_c_X8_run g h0 xa xb xc xd xe xf xg xm xv xw xq xr xh xo xp vc vk vw vg vb vi ve vf vu vl vr va vt vm vd vx f x bk) := by
  refine Ct_of (by decide +kernel) (Nat.le_of_ble_eq_true rfl) ?_
  intro p9 e9 s9 m9 ag9 bl9 mt9 c9 A9 fx hr hnm
  refine v_iload_n fx 1 dX8_run_0 rfl rfl ?_
  refine v_istore_n fx [(3, .int (iI x)), (0, .ref h0), (1, .int (iI x)), (2, .int (iI bk))] dX8_run_1 (by decide) rfl rfl ?_
  have L2 : ∀ (N : Nat) (y : Int) (b1 : Int) (f1 : Nat → Int32), ((y = x ∧ b1 = vb) ∨ (y = x - 2560 ∧ 0 ≤ y ∧ b1 ≤ vb + 13)) → (vb ≤ b1) → y.toNat < N → V p9 l e9 (rmD 3 0 0) s9 m9 ag9 bl9 mt9 c9 4 g A9 (MQ bl9 (cQ g (po_c_X8_run g h0 xa xb xc xd xe xf xg xm xv xw xq xr xh xo xp vc vk vw vg vb vi ve vf vu vl vr va vt vm vd vx f x bk) A9) ag9 s9 0 0 A9) [(h0, ob 8 [.ref xa, .ref xb, .ref xc, .ref xd, .ref xe, .ref xf, .ref xg, .int (iI vc), .int (iI vk), .int (iI vw), .ref xm, .ref xv, .int (iI vg), .ref xw, .int (iI b1), .int (iI vi), .ref xq, .int (iI ve), .int (iI vf), .int (iI vu), .int (iI vl), .ref xr, .ref xh, .ref xo, .ref xp, .int (iI vr), .int (iI va), .int (iI vt), .int (iI vm), .int (iI vd), .int (iI vx)]), (xw, aI g 72000 f1), (xa, aI g 64 (lfT mW 64)), (xb, aI g 64 (lfT mB 64)), (xc, aI g 27 (lfT mWM 27)), (xd, aI g 27 (lfT mBM 27)), (xe, aI g 13 (lfT mBO 13))] 0 0 [(0, .ref h0), (1, .int (iI x)), (2, .int (iI bk)), (3, .int (iI y))] 2 [] := by
    intro N
    induction N with
    | zero => intro y b1 f1 hi2_0 hi2_1 hN; exact absurd hN (Nat.not_lt_zero _)
    | succ N ihL2 =>
      intro y b1 f1 hi2_0 hi2_1 hN2
      refine v_iload_n fx 3 dX8_run_2 rfl rfl ?_
      refine v_sipush fx dX8_run_3 (by decide +kernel) rfl ?_
      refine v_icmp_lt fx 29 dX8_run_6 (by decide) rfl (by omega) (by omega) (fun h_1 => ?_) (fun h_1 => ?_)
      ·
        refine v_iload_n fx 3 dX8_run_29 rfl rfl ?_
        refine v_sipush fx dX8_run_30 (by decide +kernel) rfl ?_
        refine v_icmp_lt fx 55 dX8_run_33 (by decide) rfl (by omega) (by omega) (fun h_2 => ?_) (fun h_2 => ?_)
        ·
          refine v_iload_n fx 3 dX8_run_55 rfl rfl ?_
          refine v_bipush fx dX8_run_56 (by decide +kernel) rfl ?_
          refine v_icmp_lt fx 94 dX8_run_58 (by decide) rfl (by omega) (by omega) (fun h_3 => ?_) (fun h_3 => ?_)
          ·
            refine v_aload_n fx 0 dX8_run_94 rfl rfl ?_
            refine v_iload_n fx 2 dX8_run_95 rfl rfl ?_
            refine v_if_eq fx 111 dX8_run_96 (by decide) rfl (by omega) (fun h_4 => ?_) (fun h_4 => ?_)
            ·
              refine v_aload_n fx 0 dX8_run_111 rfl rfl ?_
              refine v_get fx 0 0 inX8 k996 dX8_run_112 rfl rfl (by decide) rfl rfl rfl ?_
              refine v_iload_n fx 3 dX8_run_115 rfl rfl ?_
              refine v_bipush fx dX8_run_116 (by decide +kernel) rfl ?_
              refine v_irem fx (iI (y % 64)) dX8_run_118 (by decide) (iI_rem (by omega) 64 (by decide) (by decide)) rfl ?_
              refine v_iald fx 2 dX8_run_119 rfl (by omega) (by omega) rfl ?_
              refine v_top (iI (mW.getD (y % 64).toNat 0)) (lfT_all (by decide) _) ?_
              have htt := tabT_at (b := 0) tabT_w (by decide +kernel) rfl (x := y % 64) (by omega)
              have hrb := rbB_lt (x := y % 64) (b := 0) (by omega)
              have htt1 := htt.1
              have htt2 := htt.2
              refine v_callV (As := [.int (iI (mW.getD (y % 64).toNat 0))]) (rest := []) fx [0, 1] [2, 3, 4, 5, 6] [(h0, ob 8 [.ref xa, .ref xb, .ref xc, .ref xd, .ref xe, .ref xf, .ref xg, .int (iI vc), .int (iI vk), .int (iI vw), .ref xm, .ref xv, .int (iI vg), .ref xw, .int (iI b1), .int (iI vi), .ref xq, .int (iI ve), .int (iI vf), .int (iI vu), .int (iI vl), .ref xr, .ref xh, .ref xo, .ref xp, .int (iI vr), .int (iI va), .int (iI vt), .int (iI vm), .int (iI vd), .int (iI vx)]), (xw, aI g 72000 f1)] [(xa, aI g 64 (lfT mW 64)), (xb, aI g 64 (lfT mB 64)), (xc, aI g 27 (lfT mWM 27)), (xd, aI g 27 (lfT mBM 27)), (xe, aI g 13 (lfT mBO 13))] 1 0 (c_X8_write l g h0 xa xb xc xd xe xf xg xm xv xw xq xr xh xo xp vc vk vw vg b1 vi ve vf vu vl vr va vt vm vd vx f1 (mW.getD (y % 64).toNat 0) (by first | omega | decide | assumption) (by first | omega | decide | assumption) (by first | omega | decide | assumption)) dX8_run_120 k1122 k1124 k26 k57 k1125 ykX8_write rfl rfl rfl rfl rfl rfl rfl rfl (nl rfl) ⟨nl rfl, nl rfl⟩ ⟨(nl rfl), (nl rfl)⟩ rfl (fun v9 w9 hu => ?_)
              obtain ⟨b2_5, f2_6, rfl, rfl, u_7⟩ := hu
              refine v_is (wn := [(xa, aI g 64 (lfT mW 64)), (xb, aI g 64 (lfT mB 64)), (xc, aI g 27 (lfT mWM 27)), (xd, aI g 27 (lfT mBM 27)), (xe, aI g 13 (lfT mBO 13)), (h0, ob 8 [.ref xa, .ref xb, .ref xc, .ref xd, .ref xe, .ref xf, .ref xg, .int (iI vc), .int (iI vk), .int (iI vw), .ref xm, .ref xv, .int (iI vg), .ref xw, .int (iI b2_5), .int (iI vi), .ref xq, .int (iI ve), .int (iI vf), .int (iI vu), .int (iI vl), .ref xr, .ref xh, .ref xo, .ref xp, .int (iI vr), .int (iI va), .int (iI vt), .int (iI vm), .int (iI vd), .int (iI vx)]), (xw, aI g 72000 f2_6)]) (cn := 0) (sn := 0) (sn2 := []) rfl rfl rfl rfl ?_
              exact v_vret fx [(h0, ob 8 [.ref xa, .ref xb, .ref xc, .ref xd, .ref xe, .ref xf, .ref xg, .int (iI vc), .int (iI vk), .int (iI vw), .ref xm, .ref xv, .int (iI vg), .ref xw, .int (iI b2_5), .int (iI vi), .ref xq, .int (iI ve), .int (iI vf), .int (iI vu), .int (iI vl), .ref xr, .ref xh, .ref xo, .ref xp, .int (iI vr), .int (iI va), .int (iI vt), .int (iI vm), .int (iI vd), .int (iI vx)]), (xw, aI g 72000 f2_6), (xa, aI g 64 (lfT mW 64)), (xb, aI g 64 (lfT mB 64)), (xc, aI g 27 (lfT mWM 27)), (xd, aI g 27 (lfT mBM 27)), (xe, aI g 13 (lfT mBO 13))] [5, 6, 0, 1, 2, 3, 4] hr dX8_run_123 rfl rfl (nl rfl) (nl rfl) ⟨b2_5, f2_6, rfl, rfl, (by first | omega | rfl | assumption), (by first | omega | rfl | assumption)⟩
            ·
              refine v_aload_n fx 0 dX8_run_99 rfl rfl ?_
              refine v_get fx 0 1 inX8 k997 dX8_run_100 rfl rfl (by decide) rfl rfl rfl ?_
              refine v_iload_n fx 3 dX8_run_103 rfl rfl ?_
              refine v_bipush fx dX8_run_104 (by decide +kernel) rfl ?_
              refine v_irem fx (iI (y % 64)) dX8_run_106 (by decide) (iI_rem (by omega) 64 (by decide) (by decide)) rfl ?_
              refine v_iald fx 3 dX8_run_107 rfl (by omega) (by omega) rfl ?_
              refine v_top (iI (mB.getD (y % 64).toNat 0)) (lfT_all (by decide) _) ?_
              have htt := tabT_at (b := 1) tabT_b (by decide +kernel) rfl (x := y % 64) (by omega)
              have hrb := rbB_lt (x := y % 64) (b := 1) (by omega)
              have htt1 := htt.1
              have htt2 := htt.2
              refine v_goto fx 120 dX8_run_108 (by decide) ?_
              refine v_callV (As := [.int (iI (mB.getD (y % 64).toNat 0))]) (rest := []) fx [0, 1] [2, 3, 4, 5, 6] [(h0, ob 8 [.ref xa, .ref xb, .ref xc, .ref xd, .ref xe, .ref xf, .ref xg, .int (iI vc), .int (iI vk), .int (iI vw), .ref xm, .ref xv, .int (iI vg), .ref xw, .int (iI b1), .int (iI vi), .ref xq, .int (iI ve), .int (iI vf), .int (iI vu), .int (iI vl), .ref xr, .ref xh, .ref xo, .ref xp, .int (iI vr), .int (iI va), .int (iI vt), .int (iI vm), .int (iI vd), .int (iI vx)]), (xw, aI g 72000 f1)] [(xa, aI g 64 (lfT mW 64)), (xb, aI g 64 (lfT mB 64)), (xc, aI g 27 (lfT mWM 27)), (xd, aI g 27 (lfT mBM 27)), (xe, aI g 13 (lfT mBO 13))] 1 0 (c_X8_write l g h0 xa xb xc xd xe xf xg xm xv xw xq xr xh xo xp vc vk vw vg b1 vi ve vf vu vl vr va vt vm vd vx f1 (mB.getD (y % 64).toNat 0) (by first | omega | decide | assumption) (by first | omega | decide | assumption) (by first | omega | decide | assumption)) dX8_run_120 k1122 k1124 k26 k57 k1125 ykX8_write rfl rfl rfl rfl rfl rfl rfl rfl (nl rfl) ⟨nl rfl, nl rfl⟩ ⟨(nl rfl), (nl rfl)⟩ rfl (fun v9 w9 hu => ?_)
              obtain ⟨b2_8, f2_9, rfl, rfl, u_10⟩ := hu
              refine v_is (wn := [(xa, aI g 64 (lfT mW 64)), (xb, aI g 64 (lfT mB 64)), (xc, aI g 27 (lfT mWM 27)), (xd, aI g 27 (lfT mBM 27)), (xe, aI g 13 (lfT mBO 13)), (h0, ob 8 [.ref xa, .ref xb, .ref xc, .ref xd, .ref xe, .ref xf, .ref xg, .int (iI vc), .int (iI vk), .int (iI vw), .ref xm, .ref xv, .int (iI vg), .ref xw, .int (iI b2_8), .int (iI vi), .ref xq, .int (iI ve), .int (iI vf), .int (iI vu), .int (iI vl), .ref xr, .ref xh, .ref xo, .ref xp, .int (iI vr), .int (iI va), .int (iI vt), .int (iI vm), .int (iI vd), .int (iI vx)]), (xw, aI g 72000 f2_9)]) (cn := 0) (sn := 0) (sn2 := []) rfl rfl rfl rfl ?_
              exact v_vret fx [(h0, ob 8 [.ref xa, .ref xb, .ref xc, .ref xd, .ref xe, .ref xf, .ref xg, .int (iI vc), .int (iI vk), .int (iI vw), .ref xm, .ref xv, .int (iI vg), .ref xw, .int (iI b2_8), .int (iI vi), .ref xq, .int (iI ve), .int (iI vf), .int (iI vu), .int (iI vl), .ref xr, .ref xh, .ref xo, .ref xp, .int (iI vr), .int (iI va), .int (iI vt), .int (iI vm), .int (iI vd), .int (iI vx)]), (xw, aI g 72000 f2_9), (xa, aI g 64 (lfT mW 64)), (xb, aI g 64 (lfT mB 64)), (xc, aI g 27 (lfT mWM 27)), (xd, aI g 27 (lfT mBM 27)), (xe, aI g 13 (lfT mBO 13))] [5, 6, 0, 1, 2, 3, 4] hr dX8_run_123 rfl rfl (nl rfl) (nl rfl) ⟨b2_8, f2_9, rfl, rfl, (by first | omega | rfl | assumption), (by first | omega | rfl | assumption)⟩
          ·
            refine v_aload_n fx 0 dX8_run_61 rfl rfl ?_
            refine v_iload_n fx 2 dX8_run_62 rfl rfl ?_
            refine v_if_eq fx 80 dX8_run_63 (by decide) rfl (by omega) (fun h_11 => ?_) (fun h_11 => ?_)
            ·
              refine v_aload_n fx 0 dX8_run_80 rfl rfl ?_
              refine v_get fx 0 2 inX8 k998 dX8_run_81 rfl rfl (by decide) rfl rfl rfl ?_
              refine v_iload_n fx 3 dX8_run_84 rfl rfl ?_
              refine v_bipush fx dX8_run_85 (by decide +kernel) rfl ?_
              refine v_idiv fx (iI (y / 64)) dX8_run_87 (by decide) (iI_div (by omega) 64 (by decide) (by decide)) rfl ?_
              refine v_iconst fx dX8_run_88 rfl ?_
              refine v_isub fx ((y / 64) - 1) dX8_run_89 (by rfl) rfl ?_
              refine v_iald fx 4 dX8_run_90 rfl (by omega) (by omega) rfl ?_
              refine v_top (iI (mWM.getD (y / 64 - 1).toNat 0)) (lfT_all (by decide) _) ?_
              have htb := tabP_at (l := mWM) (by decide +kernel) (x := y / 64 - 1) (by show 0 ≤ _ ∧ _ < (27 : Int); omega)
              have hc13 := clen13 htb
              refine v_callV (As := [.int (iI (mWM.getD (y / 64 - 1).toNat 0))]) (rest := []) fx [0, 1] [2, 3, 4, 5, 6] [(h0, ob 8 [.ref xa, .ref xb, .ref xc, .ref xd, .ref xe, .ref xf, .ref xg, .int (iI vc), .int (iI vk), .int (iI vw), .ref xm, .ref xv, .int (iI vg), .ref xw, .int (iI b1), .int (iI vi), .ref xq, .int (iI ve), .int (iI vf), .int (iI vu), .int (iI vl), .ref xr, .ref xh, .ref xo, .ref xp, .int (iI vr), .int (iI va), .int (iI vt), .int (iI vm), .int (iI vd), .int (iI vx)]), (xw, aI g 72000 f1)] [(xa, aI g 64 (lfT mW 64)), (xb, aI g 64 (lfT mB 64)), (xc, aI g 27 (lfT mWM 27)), (xd, aI g 27 (lfT mBM 27)), (xe, aI g 13 (lfT mBO 13))] 1 0 (c_X8_write l g h0 xa xb xc xd xe xf xg xm xv xw xq xr xh xo xp vc vk vw vg b1 vi ve vf vu vl vr va vt vm vd vx f1 (mWM.getD (y / 64 - 1).toNat 0) (by first | omega | decide | assumption) (by first | omega | decide | assumption) (by first | omega | decide | assumption)) dX8_run_91 k1122 k1124 k26 k57 k1125 ykX8_write rfl rfl rfl rfl rfl rfl rfl rfl (nl rfl) ⟨nl rfl, nl rfl⟩ ⟨(nl rfl), (nl rfl)⟩ rfl (fun v9 w9 hu => ?_)
              obtain ⟨b2_12, f2_13, rfl, rfl, u_14⟩ := hu
              refine v_is (wn := [(xa, aI g 64 (lfT mW 64)), (xb, aI g 64 (lfT mB 64)), (xc, aI g 27 (lfT mWM 27)), (xd, aI g 27 (lfT mBM 27)), (xe, aI g 13 (lfT mBO 13)), (h0, ob 8 [.ref xa, .ref xb, .ref xc, .ref xd, .ref xe, .ref xf, .ref xg, .int (iI vc), .int (iI vk), .int (iI vw), .ref xm, .ref xv, .int (iI vg), .ref xw, .int (iI b2_12), .int (iI vi), .ref xq, .int (iI ve), .int (iI vf), .int (iI vu), .int (iI vl), .ref xr, .ref xh, .ref xo, .ref xp, .int (iI vr), .int (iI va), .int (iI vt), .int (iI vm), .int (iI vd), .int (iI vx)]), (xw, aI g 72000 f2_13)]) (cn := 0) (sn := 0) (sn2 := []) rfl rfl rfl rfl ?_
              refine v_aload_n fx 0 dX8_run_94 rfl rfl ?_
              refine v_iload_n fx 2 dX8_run_95 rfl rfl ?_
              refine v_if_eq fx 111 dX8_run_96 (by decide) rfl (by omega) (fun h_15 => ?_) (fun h_15 => ?_)
              ·
                refine v_aload_n fx 0 dX8_run_111 rfl rfl ?_
                refine v_get fx 5 0 inX8 k996 dX8_run_112 rfl rfl (by decide) rfl rfl rfl ?_
                refine v_iload_n fx 3 dX8_run_115 rfl rfl ?_
                refine v_bipush fx dX8_run_116 (by decide +kernel) rfl ?_
                refine v_irem fx (iI (y % 64)) dX8_run_118 (by decide) (iI_rem (by omega) 64 (by decide) (by decide)) rfl ?_
                refine v_iald fx 0 dX8_run_119 rfl (by omega) (by omega) rfl ?_
                refine v_top (iI (mW.getD (y % 64).toNat 0)) (lfT_all (by decide) _) ?_
                have htt := tabT_at (b := 0) tabT_w (by decide +kernel) rfl (x := y % 64) (by omega)
                have hrb := rbB_lt (x := y % 64) (b := 0) (by omega)
                have htt1 := htt.1
                have htt2 := htt.2
                refine v_callV (As := [.int (iI (mW.getD (y % 64).toNat 0))]) (rest := []) fx [5, 6] [0, 1, 2, 3, 4] [(h0, ob 8 [.ref xa, .ref xb, .ref xc, .ref xd, .ref xe, .ref xf, .ref xg, .int (iI vc), .int (iI vk), .int (iI vw), .ref xm, .ref xv, .int (iI vg), .ref xw, .int (iI b2_12), .int (iI vi), .ref xq, .int (iI ve), .int (iI vf), .int (iI vu), .int (iI vl), .ref xr, .ref xh, .ref xo, .ref xp, .int (iI vr), .int (iI va), .int (iI vt), .int (iI vm), .int (iI vd), .int (iI vx)]), (xw, aI g 72000 f2_13)] [(xa, aI g 64 (lfT mW 64)), (xb, aI g 64 (lfT mB 64)), (xc, aI g 27 (lfT mWM 27)), (xd, aI g 27 (lfT mBM 27)), (xe, aI g 13 (lfT mBO 13))] 1 0 (c_X8_write l g h0 xa xb xc xd xe xf xg xm xv xw xq xr xh xo xp vc vk vw vg b2_12 vi ve vf vu vl vr va vt vm vd vx f2_13 (mW.getD (y % 64).toNat 0) (by first | omega | decide | assumption) (by first | omega | decide | assumption) (by first | omega | decide | assumption)) dX8_run_120 k1122 k1124 k26 k57 k1125 ykX8_write rfl rfl rfl rfl rfl rfl rfl rfl (nl rfl) ⟨nl rfl, nl rfl⟩ ⟨(nl rfl), (nl rfl)⟩ rfl (fun v9 w9 hu => ?_)
                obtain ⟨b2_16, f2_17, rfl, rfl, u_18⟩ := hu
                refine v_is (wn := [(xa, aI g 64 (lfT mW 64)), (xb, aI g 64 (lfT mB 64)), (xc, aI g 27 (lfT mWM 27)), (xd, aI g 27 (lfT mBM 27)), (xe, aI g 13 (lfT mBO 13)), (h0, ob 8 [.ref xa, .ref xb, .ref xc, .ref xd, .ref xe, .ref xf, .ref xg, .int (iI vc), .int (iI vk), .int (iI vw), .ref xm, .ref xv, .int (iI vg), .ref xw, .int (iI b2_16), .int (iI vi), .ref xq, .int (iI ve), .int (iI vf), .int (iI vu), .int (iI vl), .ref xr, .ref xh, .ref xo, .ref xp, .int (iI vr), .int (iI va), .int (iI vt), .int (iI vm), .int (iI vd), .int (iI vx)]), (xw, aI g 72000 f2_17)]) (cn := 0) (sn := 0) (sn2 := []) rfl rfl rfl rfl ?_
                exact v_vret fx [(h0, ob 8 [.ref xa, .ref xb, .ref xc, .ref xd, .ref xe, .ref xf, .ref xg, .int (iI vc), .int (iI vk), .int (iI vw), .ref xm, .ref xv, .int (iI vg), .ref xw, .int (iI b2_16), .int (iI vi), .ref xq, .int (iI ve), .int (iI vf), .int (iI vu), .int (iI vl), .ref xr, .ref xh, .ref xo, .ref xp, .int (iI vr), .int (iI va), .int (iI vt), .int (iI vm), .int (iI vd), .int (iI vx)]), (xw, aI g 72000 f2_17), (xa, aI g 64 (lfT mW 64)), (xb, aI g 64 (lfT mB 64)), (xc, aI g 27 (lfT mWM 27)), (xd, aI g 27 (lfT mBM 27)), (xe, aI g 13 (lfT mBO 13))] [5, 6, 0, 1, 2, 3, 4] hr dX8_run_123 rfl rfl (nl rfl) (nl rfl) ⟨b2_16, f2_17, rfl, rfl, (by first | omega | rfl | assumption), (by first | omega | rfl | assumption)⟩
              ·
                refine v_aload_n fx 0 dX8_run_99 rfl rfl ?_
                refine v_get fx 5 1 inX8 k997 dX8_run_100 rfl rfl (by decide) rfl rfl rfl ?_
                refine v_iload_n fx 3 dX8_run_103 rfl rfl ?_
                refine v_bipush fx dX8_run_104 (by decide +kernel) rfl ?_
                refine v_irem fx (iI (y % 64)) dX8_run_106 (by decide) (iI_rem (by omega) 64 (by decide) (by decide)) rfl ?_
                refine v_iald fx 1 dX8_run_107 rfl (by omega) (by omega) rfl ?_
                refine v_top (iI (mB.getD (y % 64).toNat 0)) (lfT_all (by decide) _) ?_
                have htt := tabT_at (b := 1) tabT_b (by decide +kernel) rfl (x := y % 64) (by omega)
                have hrb := rbB_lt (x := y % 64) (b := 1) (by omega)
                have htt1 := htt.1
                have htt2 := htt.2
                refine v_goto fx 120 dX8_run_108 (by decide) ?_
                refine v_callV (As := [.int (iI (mB.getD (y % 64).toNat 0))]) (rest := []) fx [5, 6] [0, 1, 2, 3, 4] [(h0, ob 8 [.ref xa, .ref xb, .ref xc, .ref xd, .ref xe, .ref xf, .ref xg, .int (iI vc), .int (iI vk), .int (iI vw), .ref xm, .ref xv, .int (iI vg), .ref xw, .int (iI b2_12), .int (iI vi), .ref xq, .int (iI ve), .int (iI vf), .int (iI vu), .int (iI vl), .ref xr, .ref xh, .ref xo, .ref xp, .int (iI vr), .int (iI va), .int (iI vt), .int (iI vm), .int (iI vd), .int (iI vx)]), (xw, aI g 72000 f2_13)] [(xa, aI g 64 (lfT mW 64)), (xb, aI g 64 (lfT mB 64)), (xc, aI g 27 (lfT mWM 27)), (xd, aI g 27 (lfT mBM 27)), (xe, aI g 13 (lfT mBO 13))] 1 0 (c_X8_write l g h0 xa xb xc xd xe xf xg xm xv xw xq xr xh xo xp vc vk vw vg b2_12 vi ve vf vu vl vr va vt vm vd vx f2_13 (mB.getD (y % 64).toNat 0) (by first | omega | decide | assumption) (by first | omega | decide | assumption) (by first | omega | decide | assumption)) dX8_run_120 k1122 k1124 k26 k57 k1125 ykX8_write rfl rfl rfl rfl rfl rfl rfl rfl (nl rfl) ⟨nl rfl, nl rfl⟩ ⟨(nl rfl), (nl rfl)⟩ rfl (fun v9 w9 hu => ?_)
                obtain ⟨b2_19, f2_20, rfl, rfl, u_21⟩ := hu
                refine v_is (wn := [(xa, aI g 64 (lfT mW 64)), (xb, aI g 64 (lfT mB 64)), (xc, aI g 27 (lfT mWM 27)), (xd, aI g 27 (lfT mBM 27)), (xe, aI g 13 (lfT mBO 13)), (h0, ob 8 [.ref xa, .ref xb, .ref xc, .ref xd, .ref xe, .ref xf, .ref xg, .int (iI vc), .int (iI vk), .int (iI vw), .ref xm, .ref xv, .int (iI vg), .ref xw, .int (iI b2_19), .int (iI vi), .ref xq, .int (iI ve), .int (iI vf), .int (iI vu), .int (iI vl), .ref xr, .ref xh, .ref xo, .ref xp, .int (iI vr), .int (iI va), .int (iI vt), .int (iI vm), .int (iI vd), .int (iI vx)]), (xw, aI g 72000 f2_20)]) (cn := 0) (sn := 0) (sn2 := []) rfl rfl rfl rfl ?_
                exact v_vret fx [(h0, ob 8 [.ref xa, .ref xb, .ref xc, .ref xd, .ref xe, .ref xf, .ref xg, .int (iI vc), .int (iI vk), .int (iI vw), .ref xm, .ref xv, .int (iI vg), .ref xw, .int (iI b2_19), .int (iI vi), .ref xq, .int (iI ve), .int (iI vf), .int (iI vu), .int (iI vl), .ref xr, .ref xh, .ref xo, .ref xp, .int (iI vr), .int (iI va), .int (iI vt), .int (iI vm), .int (iI vd), .int (iI vx)]), (xw, aI g 72000 f2_20), (xa, aI g 64 (lfT mW 64)), (xb, aI g 64 (lfT mB 64)), (xc, aI g 27 (lfT mWM 27)), (xd, aI g 27 (lfT mBM 27)), (xe, aI g 13 (lfT mBO 13))] [5, 6, 0, 1, 2, 3, 4] hr dX8_run_123 rfl rfl (nl rfl) (nl rfl) ⟨b2_19, f2_20, rfl, rfl, (by first | omega | rfl | assumption), (by first | omega | rfl | assumption)⟩
            ·
              refine v_aload_n fx 0 dX8_run_66 rfl rfl ?_
              refine v_get fx 0 3 inX8 k999 dX8_run_67 rfl rfl (by decide) rfl rfl rfl ?_
              refine v_iload_n fx 3 dX8_run_70 rfl rfl ?_
              refine v_bipush fx dX8_run_71 (by decide +kernel) rfl ?_
              refine v_idiv fx (iI (y / 64)) dX8_run_73 (by decide) (iI_div (by omega) 64 (by decide) (by decide)) rfl ?_
              refine v_iconst fx dX8_run_74 rfl ?_
              refine v_isub fx ((y / 64) - 1) dX8_run_75 (by rfl) rfl ?_
              refine v_iald fx 5 dX8_run_76 rfl (by omega) (by omega) rfl ?_
              refine v_top (iI (mBM.getD (y / 64 - 1).toNat 0)) (lfT_all (by decide) _) ?_
              have htb := tabP_at (l := mBM) (by decide +kernel) (x := y / 64 - 1) (by show 0 ≤ _ ∧ _ < (27 : Int); omega)
              have hc13 := clen13 htb
              refine v_goto fx 91 dX8_run_77 (by decide) ?_
              refine v_callV (As := [.int (iI (mBM.getD (y / 64 - 1).toNat 0))]) (rest := []) fx [0, 1] [2, 3, 4, 5, 6] [(h0, ob 8 [.ref xa, .ref xb, .ref xc, .ref xd, .ref xe, .ref xf, .ref xg, .int (iI vc), .int (iI vk), .int (iI vw), .ref xm, .ref xv, .int (iI vg), .ref xw, .int (iI b1), .int (iI vi), .ref xq, .int (iI ve), .int (iI vf), .int (iI vu), .int (iI vl), .ref xr, .ref xh, .ref xo, .ref xp, .int (iI vr), .int (iI va), .int (iI vt), .int (iI vm), .int (iI vd), .int (iI vx)]), (xw, aI g 72000 f1)] [(xa, aI g 64 (lfT mW 64)), (xb, aI g 64 (lfT mB 64)), (xc, aI g 27 (lfT mWM 27)), (xd, aI g 27 (lfT mBM 27)), (xe, aI g 13 (lfT mBO 13))] 1 0 (c_X8_write l g h0 xa xb xc xd xe xf xg xm xv xw xq xr xh xo xp vc vk vw vg b1 vi ve vf vu vl vr va vt vm vd vx f1 (mBM.getD (y / 64 - 1).toNat 0) (by first | omega | decide | assumption) (by first | omega | decide | assumption) (by first | omega | decide | assumption)) dX8_run_91 k1122 k1124 k26 k57 k1125 ykX8_write rfl rfl rfl rfl rfl rfl rfl rfl (nl rfl) ⟨nl rfl, nl rfl⟩ ⟨(nl rfl), (nl rfl)⟩ rfl (fun v9 w9 hu => ?_)
              obtain ⟨b2_22, f2_23, rfl, rfl, u_24⟩ := hu
              refine v_is (wn := [(xa, aI g 64 (lfT mW 64)), (xb, aI g 64 (lfT mB 64)), (xc, aI g 27 (lfT mWM 27)), (xd, aI g 27 (lfT mBM 27)), (xe, aI g 13 (lfT mBO 13)), (h0, ob 8 [.ref xa, .ref xb, .ref xc, .ref xd, .ref xe, .ref xf, .ref xg, .int (iI vc), .int (iI vk), .int (iI vw), .ref xm, .ref xv, .int (iI vg), .ref xw, .int (iI b2_22), .int (iI vi), .ref xq, .int (iI ve), .int (iI vf), .int (iI vu), .int (iI vl), .ref xr, .ref xh, .ref xo, .ref xp, .int (iI vr), .int (iI va), .int (iI vt), .int (iI vm), .int (iI vd), .int (iI vx)]), (xw, aI g 72000 f2_23)]) (cn := 0) (sn := 0) (sn2 := []) rfl rfl rfl rfl ?_
              refine v_aload_n fx 0 dX8_run_94 rfl rfl ?_
              refine v_iload_n fx 2 dX8_run_95 rfl rfl ?_
              refine v_if_eq fx 111 dX8_run_96 (by decide) rfl (by omega) (fun h_25 => ?_) (fun h_25 => ?_)
              ·
                refine v_aload_n fx 0 dX8_run_111 rfl rfl ?_
                refine v_get fx 5 0 inX8 k996 dX8_run_112 rfl rfl (by decide) rfl rfl rfl ?_
                refine v_iload_n fx 3 dX8_run_115 rfl rfl ?_
                refine v_bipush fx dX8_run_116 (by decide +kernel) rfl ?_
                refine v_irem fx (iI (y % 64)) dX8_run_118 (by decide) (iI_rem (by omega) 64 (by decide) (by decide)) rfl ?_
                refine v_iald fx 0 dX8_run_119 rfl (by omega) (by omega) rfl ?_
                refine v_top (iI (mW.getD (y % 64).toNat 0)) (lfT_all (by decide) _) ?_
                have htt := tabT_at (b := 0) tabT_w (by decide +kernel) rfl (x := y % 64) (by omega)
                have hrb := rbB_lt (x := y % 64) (b := 0) (by omega)
                have htt1 := htt.1
                have htt2 := htt.2
                refine v_callV (As := [.int (iI (mW.getD (y % 64).toNat 0))]) (rest := []) fx [5, 6] [0, 1, 2, 3, 4] [(h0, ob 8 [.ref xa, .ref xb, .ref xc, .ref xd, .ref xe, .ref xf, .ref xg, .int (iI vc), .int (iI vk), .int (iI vw), .ref xm, .ref xv, .int (iI vg), .ref xw, .int (iI b2_22), .int (iI vi), .ref xq, .int (iI ve), .int (iI vf), .int (iI vu), .int (iI vl), .ref xr, .ref xh, .ref xo, .ref xp, .int (iI vr), .int (iI va), .int (iI vt), .int (iI vm), .int (iI vd), .int (iI vx)]), (xw, aI g 72000 f2_23)] [(xa, aI g 64 (lfT mW 64)), (xb, aI g 64 (lfT mB 64)), (xc, aI g 27 (lfT mWM 27)), (xd, aI g 27 (lfT mBM 27)), (xe, aI g 13 (lfT mBO 13))] 1 0 (c_X8_write l g h0 xa xb xc xd xe xf xg xm xv xw xq xr xh xo xp vc vk vw vg b2_22 vi ve vf vu vl vr va vt vm vd vx f2_23 (mW.getD (y % 64).toNat 0) (by first | omega | decide | assumption) (by first | omega | decide | assumption) (by first | omega | decide | assumption)) dX8_run_120 k1122 k1124 k26 k57 k1125 ykX8_write rfl rfl rfl rfl rfl rfl rfl rfl (nl rfl) ⟨nl rfl, nl rfl⟩ ⟨(nl rfl), (nl rfl)⟩ rfl (fun v9 w9 hu => ?_)
                obtain ⟨b2_26, f2_27, rfl, rfl, u_28⟩ := hu
                refine v_is (wn := [(xa, aI g 64 (lfT mW 64)), (xb, aI g 64 (lfT mB 64)), (xc, aI g 27 (lfT mWM 27)), (xd, aI g 27 (lfT mBM 27)), (xe, aI g 13 (lfT mBO 13)), (h0, ob 8 [.ref xa, .ref xb, .ref xc, .ref xd, .ref xe, .ref xf, .ref xg, .int (iI vc), .int (iI vk), .int (iI vw), .ref xm, .ref xv, .int (iI vg), .ref xw, .int (iI b2_26), .int (iI vi), .ref xq, .int (iI ve), .int (iI vf), .int (iI vu), .int (iI vl), .ref xr, .ref xh, .ref xo, .ref xp, .int (iI vr), .int (iI va), .int (iI vt), .int (iI vm), .int (iI vd), .int (iI vx)]), (xw, aI g 72000 f2_27)]) (cn := 0) (sn := 0) (sn2 := []) rfl rfl rfl rfl ?_
                exact v_vret fx [(h0, ob 8 [.ref xa, .ref xb, .ref xc, .ref xd, .ref xe, .ref xf, .ref xg, .int (iI vc), .int (iI vk), .int (iI vw), .ref xm, .ref xv, .int (iI vg), .ref xw, .int (iI b2_26), .int (iI vi), .ref xq, .int (iI ve), .int (iI vf), .int (iI vu), .int (iI vl), .ref xr, .ref xh, .ref xo, .ref xp, .int (iI vr), .int (iI va), .int (iI vt), .int (iI vm), .int (iI vd), .int (iI vx)]), (xw, aI g 72000 f2_27), (xa, aI g 64 (lfT mW 64)), (xb, aI g 64 (lfT mB 64)), (xc, aI g 27 (lfT mWM 27)), (xd, aI g 27 (lfT mBM 27)), (xe, aI g 13 (lfT mBO 13))] [5, 6, 0, 1, 2, 3, 4] hr dX8_run_123 rfl rfl (nl rfl) (nl rfl) ⟨b2_26, f2_27, rfl, rfl, (by first | omega | rfl | assumption), (by first | omega | rfl | assumption)⟩
              ·
                refine v_aload_n fx 0 dX8_run_99 rfl rfl ?_
                refine v_get fx 5 1 inX8 k997 dX8_run_100 rfl rfl (by decide) rfl rfl rfl ?_
                refine v_iload_n fx 3 dX8_run_103 rfl rfl ?_
                refine v_bipush fx dX8_run_104 (by decide +kernel) rfl ?_
                refine v_irem fx (iI (y % 64)) dX8_run_106 (by decide) (iI_rem (by omega) 64 (by decide) (by decide)) rfl ?_
                refine v_iald fx 1 dX8_run_107 rfl (by omega) (by omega) rfl ?_
                refine v_top (iI (mB.getD (y % 64).toNat 0)) (lfT_all (by decide) _) ?_
                have htt := tabT_at (b := 1) tabT_b (by decide +kernel) rfl (x := y % 64) (by omega)
                have hrb := rbB_lt (x := y % 64) (b := 1) (by omega)
                have htt1 := htt.1
                have htt2 := htt.2
                refine v_goto fx 120 dX8_run_108 (by decide) ?_
                refine v_callV (As := [.int (iI (mB.getD (y % 64).toNat 0))]) (rest := []) fx [5, 6] [0, 1, 2, 3, 4] [(h0, ob 8 [.ref xa, .ref xb, .ref xc, .ref xd, .ref xe, .ref xf, .ref xg, .int (iI vc), .int (iI vk), .int (iI vw), .ref xm, .ref xv, .int (iI vg), .ref xw, .int (iI b2_22), .int (iI vi), .ref xq, .int (iI ve), .int (iI vf), .int (iI vu), .int (iI vl), .ref xr, .ref xh, .ref xo, .ref xp, .int (iI vr), .int (iI va), .int (iI vt), .int (iI vm), .int (iI vd), .int (iI vx)]), (xw, aI g 72000 f2_23)] [(xa, aI g 64 (lfT mW 64)), (xb, aI g 64 (lfT mB 64)), (xc, aI g 27 (lfT mWM 27)), (xd, aI g 27 (lfT mBM 27)), (xe, aI g 13 (lfT mBO 13))] 1 0 (c_X8_write l g h0 xa xb xc xd xe xf xg xm xv xw xq xr xh xo xp vc vk vw vg b2_22 vi ve vf vu vl vr va vt vm vd vx f2_23 (mB.getD (y % 64).toNat 0) (by first | omega | decide | assumption) (by first | omega | decide | assumption) (by first | omega | decide | assumption)) dX8_run_120 k1122 k1124 k26 k57 k1125 ykX8_write rfl rfl rfl rfl rfl rfl rfl rfl (nl rfl) ⟨nl rfl, nl rfl⟩ ⟨(nl rfl), (nl rfl)⟩ rfl (fun v9 w9 hu => ?_)
                obtain ⟨b2_29, f2_30, rfl, rfl, u_31⟩ := hu
                refine v_is (wn := [(xa, aI g 64 (lfT mW 64)), (xb, aI g 64 (lfT mB 64)), (xc, aI g 27 (lfT mWM 27)), (xd, aI g 27 (lfT mBM 27)), (xe, aI g 13 (lfT mBO 13)), (h0, ob 8 [.ref xa, .ref xb, .ref xc, .ref xd, .ref xe, .ref xf, .ref xg, .int (iI vc), .int (iI vk), .int (iI vw), .ref xm, .ref xv, .int (iI vg), .ref xw, .int (iI b2_29), .int (iI vi), .ref xq, .int (iI ve), .int (iI vf), .int (iI vu), .int (iI vl), .ref xr, .ref xh, .ref xo, .ref xp, .int (iI vr), .int (iI va), .int (iI vt), .int (iI vm), .int (iI vd), .int (iI vx)]), (xw, aI g 72000 f2_30)]) (cn := 0) (sn := 0) (sn2 := []) rfl rfl rfl rfl ?_
                exact v_vret fx [(h0, ob 8 [.ref xa, .ref xb, .ref xc, .ref xd, .ref xe, .ref xf, .ref xg, .int (iI vc), .int (iI vk), .int (iI vw), .ref xm, .ref xv, .int (iI vg), .ref xw, .int (iI b2_29), .int (iI vi), .ref xq, .int (iI ve), .int (iI vf), .int (iI vu), .int (iI vl), .ref xr, .ref xh, .ref xo, .ref xp, .int (iI vr), .int (iI va), .int (iI vt), .int (iI vm), .int (iI vd), .int (iI vx)]), (xw, aI g 72000 f2_30), (xa, aI g 64 (lfT mW 64)), (xb, aI g 64 (lfT mB 64)), (xc, aI g 27 (lfT mWM 27)), (xd, aI g 27 (lfT mBM 27)), (xe, aI g 13 (lfT mBO 13))] [5, 6, 0, 1, 2, 3, 4] hr dX8_run_123 rfl rfl (nl rfl) (nl rfl) ⟨b2_29, f2_30, rfl, rfl, (by first | omega | rfl | assumption), (by first | omega | rfl | assumption)⟩
        ·
          refine v_aload_n fx 0 dX8_run_36 rfl rfl ?_
          refine v_aload_n fx 0 dX8_run_37 rfl rfl ?_
          refine v_get fx 0 4 inX8 k1000 dX8_run_38 rfl rfl (by decide) rfl rfl rfl ?_
          refine v_iload_n fx 3 dX8_run_41 rfl rfl ?_
          refine v_bipush fx dX8_run_42 (by decide +kernel) rfl ?_
          refine v_idiv fx (iI (y / 64)) dX8_run_44 (by decide) (iI_div (by omega) 64 (by decide) (by decide)) rfl ?_
          refine v_bipush fx dX8_run_45 (by decide +kernel) rfl ?_
          refine v_isub fx ((y / 64) - 28) dX8_run_47 (by rfl) rfl ?_
          refine v_iald fx 6 dX8_run_48 rfl (by omega) (by omega) rfl ?_
          refine v_top (iI (mBO.getD (y / 64 - 28).toNat 0)) (lfT_all (by decide) _) ?_
          have htb := tabP_at (l := mBO) (by decide +kernel) (x := y / 64 - 28) (by show 0 ≤ _ ∧ _ < (13 : Int); omega)
          have hc13 := clen13 htb
          refine v_callV (As := [.int (iI (mBO.getD (y / 64 - 28).toNat 0))]) (rest := []) fx [0, 1] [2, 3, 4, 5, 6] [(h0, ob 8 [.ref xa, .ref xb, .ref xc, .ref xd, .ref xe, .ref xf, .ref xg, .int (iI vc), .int (iI vk), .int (iI vw), .ref xm, .ref xv, .int (iI vg), .ref xw, .int (iI b1), .int (iI vi), .ref xq, .int (iI ve), .int (iI vf), .int (iI vu), .int (iI vl), .ref xr, .ref xh, .ref xo, .ref xp, .int (iI vr), .int (iI va), .int (iI vt), .int (iI vm), .int (iI vd), .int (iI vx)]), (xw, aI g 72000 f1)] [(xa, aI g 64 (lfT mW 64)), (xb, aI g 64 (lfT mB 64)), (xc, aI g 27 (lfT mWM 27)), (xd, aI g 27 (lfT mBM 27)), (xe, aI g 13 (lfT mBO 13))] 1 0 (c_X8_write l g h0 xa xb xc xd xe xf xg xm xv xw xq xr xh xo xp vc vk vw vg b1 vi ve vf vu vl vr va vt vm vd vx f1 (mBO.getD (y / 64 - 28).toNat 0) (by first | omega | decide | assumption) (by first | omega | decide | assumption) (by first | omega | decide | assumption)) dX8_run_49 k1122 k1124 k26 k57 k1125 ykX8_write rfl rfl rfl rfl rfl rfl rfl rfl (nl rfl) ⟨nl rfl, nl rfl⟩ ⟨(nl rfl), (nl rfl)⟩ rfl (fun v9 w9 hu => ?_)
          obtain ⟨b2_32, f2_33, rfl, rfl, u_34⟩ := hu
          refine v_is (wn := [(xa, aI g 64 (lfT mW 64)), (xb, aI g 64 (lfT mB 64)), (xc, aI g 27 (lfT mWM 27)), (xd, aI g 27 (lfT mBM 27)), (xe, aI g 13 (lfT mBO 13)), (h0, ob 8 [.ref xa, .ref xb, .ref xc, .ref xd, .ref xe, .ref xf, .ref xg, .int (iI vc), .int (iI vk), .int (iI vw), .ref xm, .ref xv, .int (iI vg), .ref xw, .int (iI b2_32), .int (iI vi), .ref xq, .int (iI ve), .int (iI vf), .int (iI vu), .int (iI vl), .ref xr, .ref xh, .ref xo, .ref xp, .int (iI vr), .int (iI va), .int (iI vt), .int (iI vm), .int (iI vd), .int (iI vx)]), (xw, aI g 72000 f2_33)]) (cn := 0) (sn := 0) (sn2 := []) rfl rfl rfl rfl ?_
          refine v_goto fx 94 dX8_run_52 (by decide) ?_
          refine v_aload_n fx 0 dX8_run_94 rfl rfl ?_
          refine v_iload_n fx 2 dX8_run_95 rfl rfl ?_
          refine v_if_eq fx 111 dX8_run_96 (by decide) rfl (by omega) (fun h_35 => ?_) (fun h_35 => ?_)
          ·
            refine v_aload_n fx 0 dX8_run_111 rfl rfl ?_
            refine v_get fx 5 0 inX8 k996 dX8_run_112 rfl rfl (by decide) rfl rfl rfl ?_
            refine v_iload_n fx 3 dX8_run_115 rfl rfl ?_
            refine v_bipush fx dX8_run_116 (by decide +kernel) rfl ?_
            refine v_irem fx (iI (y % 64)) dX8_run_118 (by decide) (iI_rem (by omega) 64 (by decide) (by decide)) rfl ?_
            refine v_iald fx 0 dX8_run_119 rfl (by omega) (by omega) rfl ?_
            refine v_top (iI (mW.getD (y % 64).toNat 0)) (lfT_all (by decide) _) ?_
            have htt := tabT_at (b := 0) tabT_w (by decide +kernel) rfl (x := y % 64) (by omega)
            have hrb := rbB_lt (x := y % 64) (b := 0) (by omega)
            have htt1 := htt.1
            have htt2 := htt.2
            refine v_callV (As := [.int (iI (mW.getD (y % 64).toNat 0))]) (rest := []) fx [5, 6] [0, 1, 2, 3, 4] [(h0, ob 8 [.ref xa, .ref xb, .ref xc, .ref xd, .ref xe, .ref xf, .ref xg, .int (iI vc), .int (iI vk), .int (iI vw), .ref xm, .ref xv, .int (iI vg), .ref xw, .int (iI b2_32), .int (iI vi), .ref xq, .int (iI ve), .int (iI vf), .int (iI vu), .int (iI vl), .ref xr, .ref xh, .ref xo, .ref xp, .int (iI vr), .int (iI va), .int (iI vt), .int (iI vm), .int (iI vd), .int (iI vx)]), (xw, aI g 72000 f2_33)] [(xa, aI g 64 (lfT mW 64)), (xb, aI g 64 (lfT mB 64)), (xc, aI g 27 (lfT mWM 27)), (xd, aI g 27 (lfT mBM 27)), (xe, aI g 13 (lfT mBO 13))] 1 0 (c_X8_write l g h0 xa xb xc xd xe xf xg xm xv xw xq xr xh xo xp vc vk vw vg b2_32 vi ve vf vu vl vr va vt vm vd vx f2_33 (mW.getD (y % 64).toNat 0) (by first | omega | decide | assumption) (by first | omega | decide | assumption) (by first | omega | decide | assumption)) dX8_run_120 k1122 k1124 k26 k57 k1125 ykX8_write rfl rfl rfl rfl rfl rfl rfl rfl (nl rfl) ⟨nl rfl, nl rfl⟩ ⟨(nl rfl), (nl rfl)⟩ rfl (fun v9 w9 hu => ?_)
            obtain ⟨b2_36, f2_37, rfl, rfl, u_38⟩ := hu
            refine v_is (wn := [(xa, aI g 64 (lfT mW 64)), (xb, aI g 64 (lfT mB 64)), (xc, aI g 27 (lfT mWM 27)), (xd, aI g 27 (lfT mBM 27)), (xe, aI g 13 (lfT mBO 13)), (h0, ob 8 [.ref xa, .ref xb, .ref xc, .ref xd, .ref xe, .ref xf, .ref xg, .int (iI vc), .int (iI vk), .int (iI vw), .ref xm, .ref xv, .int (iI vg), .ref xw, .int (iI b2_36), .int (iI vi), .ref xq, .int (iI ve), .int (iI vf), .int (iI vu), .int (iI vl), .ref xr, .ref xh, .ref xo, .ref xp, .int (iI vr), .int (iI va), .int (iI vt), .int (iI vm), .int (iI vd), .int (iI vx)]), (xw, aI g 72000 f2_37)]) (cn := 0) (sn := 0) (sn2 := []) rfl rfl rfl rfl ?_
            exact v_vret fx [(h0, ob 8 [.ref xa, .ref xb, .ref xc, .ref xd, .ref xe, .ref xf, .ref xg, .int (iI vc), .int (iI vk), .int (iI vw), .ref xm, .ref xv, .int (iI vg), .ref xw, .int (iI b2_36), .int (iI vi), .ref xq, .int (iI ve), .int (iI vf), .int (iI vu), .int (iI vl), .ref xr, .ref xh, .ref xo, .ref xp, .int (iI vr), .int (iI va), .int (iI vt), .int (iI vm), .int (iI vd), .int (iI vx)]), (xw, aI g 72000 f2_37), (xa, aI g 64 (lfT mW 64)), (xb, aI g 64 (lfT mB 64)), (xc, aI g 27 (lfT mWM 27)), (xd, aI g 27 (lfT mBM 27)), (xe, aI g 13 (lfT mBO 13))] [5, 6, 0, 1, 2, 3, 4] hr dX8_run_123 rfl rfl (nl rfl) (nl rfl) ⟨b2_36, f2_37, rfl, rfl, (by first | omega | rfl | assumption), (by first | omega | rfl | assumption)⟩
          ·
            refine v_aload_n fx 0 dX8_run_99 rfl rfl ?_
            refine v_get fx 5 1 inX8 k997 dX8_run_100 rfl rfl (by decide) rfl rfl rfl ?_
            refine v_iload_n fx 3 dX8_run_103 rfl rfl ?_
            refine v_bipush fx dX8_run_104 (by decide +kernel) rfl ?_
            refine v_irem fx (iI (y % 64)) dX8_run_106 (by decide) (iI_rem (by omega) 64 (by decide) (by decide)) rfl ?_
            refine v_iald fx 1 dX8_run_107 rfl (by omega) (by omega) rfl ?_
            refine v_top (iI (mB.getD (y % 64).toNat 0)) (lfT_all (by decide) _) ?_
            have htt := tabT_at (b := 1) tabT_b (by decide +kernel) rfl (x := y % 64) (by omega)
            have hrb := rbB_lt (x := y % 64) (b := 1) (by omega)
            have htt1 := htt.1
            have htt2 := htt.2
            refine v_goto fx 120 dX8_run_108 (by decide) ?_
            refine v_callV (As := [.int (iI (mB.getD (y % 64).toNat 0))]) (rest := []) fx [5, 6] [0, 1, 2, 3, 4] [(h0, ob 8 [.ref xa, .ref xb, .ref xc, .ref xd, .ref xe, .ref xf, .ref xg, .int (iI vc), .int (iI vk), .int (iI vw), .ref xm, .ref xv, .int (iI vg), .ref xw, .int (iI b2_32), .int (iI vi), .ref xq, .int (iI ve), .int (iI vf), .int (iI vu), .int (iI vl), .ref xr, .ref xh, .ref xo, .ref xp, .int (iI vr), .int (iI va), .int (iI vt), .int (iI vm), .int (iI vd), .int (iI vx)]), (xw, aI g 72000 f2_33)] [(xa, aI g 64 (lfT mW 64)), (xb, aI g 64 (lfT mB 64)), (xc, aI g 27 (lfT mWM 27)), (xd, aI g 27 (lfT mBM 27)), (xe, aI g 13 (lfT mBO 13))] 1 0 (c_X8_write l g h0 xa xb xc xd xe xf xg xm xv xw xq xr xh xo xp vc vk vw vg b2_32 vi ve vf vu vl vr va vt vm vd vx f2_33 (mB.getD (y % 64).toNat 0) (by first | omega | decide | assumption) (by first | omega | decide | assumption) (by first | omega | decide | assumption)) dX8_run_120 k1122 k1124 k26 k57 k1125 ykX8_write rfl rfl rfl rfl rfl rfl rfl rfl (nl rfl) ⟨nl rfl, nl rfl⟩ ⟨(nl rfl), (nl rfl)⟩ rfl (fun v9 w9 hu => ?_)
            obtain ⟨b2_39, f2_40, rfl, rfl, u_41⟩ := hu
            refine v_is (wn := [(xa, aI g 64 (lfT mW 64)), (xb, aI g 64 (lfT mB 64)), (xc, aI g 27 (lfT mWM 27)), (xd, aI g 27 (lfT mBM 27)), (xe, aI g 13 (lfT mBO 13)), (h0, ob 8 [.ref xa, .ref xb, .ref xc, .ref xd, .ref xe, .ref xf, .ref xg, .int (iI vc), .int (iI vk), .int (iI vw), .ref xm, .ref xv, .int (iI vg), .ref xw, .int (iI b2_39), .int (iI vi), .ref xq, .int (iI ve), .int (iI vf), .int (iI vu), .int (iI vl), .ref xr, .ref xh, .ref xo, .ref xp, .int (iI vr), .int (iI va), .int (iI vt), .int (iI vm), .int (iI vd), .int (iI vx)]), (xw, aI g 72000 f2_40)]) (cn := 0) (sn := 0) (sn2 := []) rfl rfl rfl rfl ?_
            exact v_vret fx [(h0, ob 8 [.ref xa, .ref xb, .ref xc, .ref xd, .ref xe, .ref xf, .ref xg, .int (iI vc), .int (iI vk), .int (iI vw), .ref xm, .ref xv, .int (iI vg), .ref xw, .int (iI b2_39), .int (iI vi), .ref xq, .int (iI ve), .int (iI vf), .int (iI vu), .int (iI vl), .ref xr, .ref xh, .ref xo, .ref xp, .int (iI vr), .int (iI va), .int (iI vt), .int (iI vm), .int (iI vd), .int (iI vx)]), (xw, aI g 72000 f2_40), (xa, aI g 64 (lfT mW 64)), (xb, aI g 64 (lfT mB 64)), (xc, aI g 27 (lfT mWM 27)), (xd, aI g 27 (lfT mBM 27)), (xe, aI g 13 (lfT mBO 13))] [5, 6, 0, 1, 2, 3, 4] hr dX8_run_123 rfl rfl (nl rfl) (nl rfl) ⟨b2_39, f2_40, rfl, rfl, (by first | omega | rfl | assumption), (by first | omega | rfl | assumption)⟩
      ·
        refine v_aload_n fx 0 dX8_run_9 rfl rfl ?_
        refine v_aload_n fx 0 dX8_run_10 rfl rfl ?_
        refine v_get fx 0 4 inX8 k1000 dX8_run_11 rfl rfl (by decide) rfl rfl rfl ?_
        refine v_bipush fx dX8_run_14 (by decide +kernel) rfl ?_
        refine v_iald fx 6 dX8_run_16 rfl (by omega) (by omega) rfl ?_
        refine v_top (iI 4127) (by decide) ?_
        have hc9 : clen 4127 = 12 := by decide
        refine v_callV (As := [.int (iI 4127)]) (rest := []) fx [0, 1] [2, 3, 4, 5, 6] [(h0, ob 8 [.ref xa, .ref xb, .ref xc, .ref xd, .ref xe, .ref xf, .ref xg, .int (iI vc), .int (iI vk), .int (iI vw), .ref xm, .ref xv, .int (iI vg), .ref xw, .int (iI b1), .int (iI vi), .ref xq, .int (iI ve), .int (iI vf), .int (iI vu), .int (iI vl), .ref xr, .ref xh, .ref xo, .ref xp, .int (iI vr), .int (iI va), .int (iI vt), .int (iI vm), .int (iI vd), .int (iI vx)]), (xw, aI g 72000 f1)] [(xa, aI g 64 (lfT mW 64)), (xb, aI g 64 (lfT mB 64)), (xc, aI g 27 (lfT mWM 27)), (xd, aI g 27 (lfT mBM 27)), (xe, aI g 13 (lfT mBO 13))] 1 0 (c_X8_write l g h0 xa xb xc xd xe xf xg xm xv xw xq xr xh xo xp vc vk vw vg b1 vi ve vf vu vl vr va vt vm vd vx f1 4127 (by first | omega | decide | assumption) (by first | omega | decide | assumption) (by first | omega | decide | assumption)) dX8_run_17 k1122 k1124 k26 k57 k1125 ykX8_write rfl rfl rfl rfl rfl rfl rfl rfl (nl rfl) ⟨nl rfl, nl rfl⟩ ⟨(nl rfl), (nl rfl)⟩ rfl (fun v9 w9 hu => ?_)
        obtain ⟨b2_42, f2_43, rfl, rfl, u_44⟩ := hu
        refine v_is (wn := [(xa, aI g 64 (lfT mW 64)), (xb, aI g 64 (lfT mB 64)), (xc, aI g 27 (lfT mWM 27)), (xd, aI g 27 (lfT mBM 27)), (xe, aI g 13 (lfT mBO 13)), (h0, ob 8 [.ref xa, .ref xb, .ref xc, .ref xd, .ref xe, .ref xf, .ref xg, .int (iI vc), .int (iI vk), .int (iI vw), .ref xm, .ref xv, .int (iI vg), .ref xw, .int (iI b2_42), .int (iI vi), .ref xq, .int (iI ve), .int (iI vf), .int (iI vu), .int (iI vl), .ref xr, .ref xh, .ref xo, .ref xp, .int (iI vr), .int (iI va), .int (iI vt), .int (iI vm), .int (iI vd), .int (iI vx)]), (xw, aI g 72000 f2_43)]) (cn := 0) (sn := 0) (sn2 := []) rfl rfl rfl rfl ?_
        refine v_iincW fx 3 (y - 2560) [(3, .int (iI (y - 2560))), (0, .ref h0), (1, .int (iI x)), (2, .int (iI bk))] dX8_run_20 rfl (by omega) (by decide) rfl rfl ?_
        refine v_goto fx 2 dX8_run_26 (by decide) ?_
        refine v_ws [5, 6, 0, 1, 2, 3, 4] [(h0, ob 8 [.ref xa, .ref xb, .ref xc, .ref xd, .ref xe, .ref xf, .ref xg, .int (iI vc), .int (iI vk), .int (iI vw), .ref xm, .ref xv, .int (iI vg), .ref xw, .int (iI b2_42), .int (iI vi), .ref xq, .int (iI ve), .int (iI vf), .int (iI vu), .int (iI vl), .ref xr, .ref xh, .ref xo, .ref xp, .int (iI vr), .int (iI va), .int (iI vt), .int (iI vm), .int (iI vd), .int (iI vx)]), (xw, aI g 72000 f2_43), (xa, aI g 64 (lfT mW 64)), (xb, aI g 64 (lfT mB 64)), (xc, aI g 27 (lfT mWM 27)), (xd, aI g 27 (lfT mBM 27)), (xe, aI g 13 (lfT mBO 13))] rfl rfl ?_
        refine v_lv [1, 2, 3, 0] [(0, .ref h0), (1, .int (iI x)), (2, .int (iI bk)), (3, .int (iI (y - 2560)))] rfl ?_
        exact ihL2 (y - 2560) b2_42 f2_43 (by omega) (by omega) (by omega)
  refine v_lv [1, 2, 3, 0] [(0, .ref h0), (1, .int (iI x)), (2, .int (iI bk)), (3, .int (iI x))] rfl ?_
  exact L2 _ x vb f (by omega) (by omega) (Nat.lt_succ_self _)
theorem dX8_change_0 : decode cX8_change 0 = .ok (.iload_n 3, 1) := by decide +kernel
theorem dX8_change_1 : decode cX8_change 1 = .ok (.iconst 1, 1) := by decide +kernel
theorem dX8_change_2 : decode cX8_change 2 = .ok (.iadd, 1) := by decide +kernel
theorem dX8_change_3 : decode cX8_change 3 = .ok (.istore 4, 2) := by decide +kernel
theorem dX8_change_5 : decode cX8_change 5 = .ok (.iload 4, 2) := by decide +kernel
theorem dX8_change_7 : decode cX8_change 7 = .ok (.aload_n 0, 1) := by decide +kernel
theorem dX8_change_8 : decode cX8_change 8 = .ok (.getfield 63, 3) := by decide +kernel
theorem dX8_change_11 : decode cX8_change 11 = .ok (.if_icmp .ge 39, 3) := by decide +kernel
theorem dX8_change_14 : decode cX8_change 14 = .ok (.aload_n 1, 1) := by decide +kernel
theorem dX8_change_15 : decode cX8_change 15 = .ok (.iload_n 2, 1) := by decide +kernel
theorem dX8_change_16 : decode cX8_change 16 = .ok (.iload 4, 2) := by decide +kernel
theorem dX8_change_18 : decode cX8_change 18 = .ok (.iadd, 1) := by decide +kernel
theorem dX8_change_19 : decode cX8_change 19 = .ok (.baload, 1) := by decide +kernel
theorem dX8_change_20 : decode cX8_change 20 = .ok (.iload 4, 2) := by decide +kernel
theorem dX8_change_22 : decode cX8_change 22 = .ok (.ifCond .le 18, 3) := by decide +kernel
theorem dX8_change_25 : decode cX8_change 25 = .ok (.aload_n 1, 1) := by decide +kernel
theorem dX8_change_26 : decode cX8_change 26 = .ok (.iload_n 2, 1) := by decide +kernel
theorem dX8_change_27 : decode cX8_change 27 = .ok (.iload 4, 2) := by decide +kernel
theorem dX8_change_29 : decode cX8_change 29 = .ok (.iadd, 1) := by decide +kernel
theorem dX8_change_30 : decode cX8_change 30 = .ok (.iconst 1, 1) := by decide +kernel
theorem dX8_change_31 : decode cX8_change 31 = .ok (.isub, 1) := by decide +kernel
theorem dX8_change_32 : decode cX8_change 32 = .ok (.baload, 1) := by decide +kernel
theorem dX8_change_33 : decode cX8_change 33 = .ok (.ifCond .eq 7, 3) := by decide +kernel
theorem dX8_change_36 : decode cX8_change 36 = .ok (.iconst 1, 1) := by decide +kernel
theorem dX8_change_37 : decode cX8_change 37 = .ok (.goto 4, 3) := by decide +kernel
theorem dX8_change_40 : decode cX8_change 40 = .ok (.iconst 0, 1) := by decide +kernel
theorem dX8_change_41 : decode cX8_change 41 = .ok (.if_icmp .ne 9, 3) := by decide +kernel
theorem dX8_change_44 : decode cX8_change 44 = .ok (.iinc 4 1, 3) := by decide +kernel
theorem dX8_change_47 : decode cX8_change 47 = .ok (.goto (-42), 3) := by decide +kernel
theorem dX8_change_50 : decode cX8_change 50 = .ok (.iload 4, 2) := by decide +kernel
theorem dX8_change_52 : decode cX8_change 52 = .ok (.aload_n 0, 1) := by decide +kernel
theorem dX8_change_53 : decode cX8_change 53 = .ok (.getfield 63, 3) := by decide +kernel
theorem dX8_change_56 : decode cX8_change 56 = .ok (.if_icmp .ge 8, 3) := by decide +kernel
theorem dX8_change_59 : decode cX8_change 59 = .ok (.iload 4, 2) := by decide +kernel
theorem dX8_change_61 : decode cX8_change 61 = .ok (.goto 7, 3) := by decide +kernel
theorem dX8_change_64 : decode cX8_change 64 = .ok (.aload_n 0, 1) := by decide +kernel
theorem dX8_change_65 : decode cX8_change 65 = .ok (.getfield 63, 3) := by decide +kernel
theorem dX8_change_68 : decode cX8_change 68 = .ok (.ireturn, 1) := by decide +kernel
abbrev po_c_X8_change (g : GG) (h0 : Nat) (xa : Nat) (xb : Nat) (xc : Nat) (xd : Nat) (xe : Nat) (xf : Nat) (xg : Nat) (xm : Nat) (xv : Nat) (xw : Nat) (xq : Nat) (xr : Nat) (xh : Nat) (xo : Nat) (xp : Nat) (vc : Int) (vk : Int) (vw : Int) (vg : Int) (vb : Int) (vi : Int) (ve : Int) (vf : Int) (vu : Int) (vl : Int) (vr : Int) (va : Int) (vt : Int) (vm : Int) (vd : Int) (vx : Int) (oz : Nat) (nz : Nat) (fz : Nat → Int32) (ba : Int) (x : Int) : Option Value → va_W → Prop := fun v8 w8 => ∃ r : Int, v8 = some (.int (iI r)) ∧ w8 = [(h0, ob 8 [.ref xa, .ref xb, .ref xc, .ref xd, .ref xe, .ref xf, .ref xg, .int (iI vc), .int (iI vk), .int (iI vw), .ref xm, .ref xv, .int (iI vg), .ref xw, .int (iI vb), .int (iI vi), .ref xq, .int (iI ve), .int (iI vf), .int (iI vu), .int (iI vl), .ref xr, .ref xh, .ref xo, .ref xp, .int (iI vr), .int (iI va), .int (iI vt), .int (iI vm), .int (iI vd), .int (iI vx)]), (oz, aZ g nz fz)] ∧ (x < r ∧ r ≤ vw)
set_option maxHeartbeats 4000000 in
set_option maxRecDepth 100000 in
theorem c_X8_change (l : Launch) (g : GG) (h0 : Nat) (xa : Nat) (xb : Nat) (xc : Nat) (xd : Nat) (xe : Nat) (xf : Nat) (xg : Nat) (xm : Nat) (xv : Nat) (xw : Nat) (xq : Nat) (xr : Nat) (xh : Nat) (xo : Nat) (xp : Nat) (vc : Int) (vk : Int) (vw : Int) (vg : Int) (vb : Int) (vi : Int) (ve : Int) (vf : Int) (vu : Int) (vl : Int) (vr : Int) (va : Int) (vt : Int) (vm : Int) (vd : Int) (vx : Int) (oz : Nat) (nz : Nat) (fz : Nat → Int32) (ba : Int) (x : Int) (hp0 : 0 ≤ ba ∧ ba + 3000 ≤ (nz : Int) ∧ (nz : Int) ≤ 100000) (hp1 : 1 ≤ vw ∧ vw ≤ 3000) (hp2 : -1 ≤ x ∧ x < vw) : Ct l g yX8_change (wM yX8_change cX8_change 5 (some .int)) (rmD 0 0 0) [.ref h0, .ref oz, .int (iI ba), .int (iI x)] [(h0, ob 8 [.ref xa, .ref xb, .ref xc, .ref xd, .ref xe, .ref xf, .ref xg, .int (iI vc), .int (iI vk), .int (iI vw), .ref xm, .ref xv, .int (iI vg), .ref xw, .int (iI vb), .int (iI vi), .ref xq, .int (iI ve), .int (iI vf), .int (iI vu), .int (iI vl), .ref xr, .ref xh, .ref xo, .ref xp, .int (iI vr), .int (iI va), .int (iI vt), .int (iI vm), .int (iI vd), .int (iI vx)]), (oz, aZ g nz fz)] (po_c_X8_change g h0 xa xb xc xd xe xf xg xm xv xw xq xr xh xo xp vc vk vw vg vb vi ve vf vu vl vr va vt vm vd vx oz nz fz ba x) := by
  refine Ct_of (by decide +kernel) (Nat.le_of_ble_eq_true rfl) ?_
  intro p9 e9 s9 m9 ag9 bl9 mt9 c9 A9 fx hr hnm
  refine v_iload_n fx 3 dX8_change_0 rfl rfl ?_
  refine v_iconst fx dX8_change_1 rfl ?_
  refine v_iadd fx (x + 1) dX8_change_2 (by rfl) rfl ?_
  refine v_istore fx [(4, .int (iI (x + 1))), (0, .ref h0), (1, .ref oz), (2, .int (iI ba)), (3, .int (iI x))] dX8_change_3 (by decide) rfl rfl ?_
  have L5 : ∀ (N : Nat) (i : Int), (x < i ∧ i ≤ vw) → ((vw - i).toNat) < N → V p9 l e9 (rmD 0 0 0) s9 m9 ag9 bl9 mt9 c9 5 g A9 (MQ bl9 (cQ g (po_c_X8_change g h0 xa xb xc xd xe xf xg xm xv xw xq xr xh xo xp vc vk vw vg vb vi ve vf vu vl vr va vt vm vd vx oz nz fz ba x) A9) ag9 s9 0 0 A9) [(h0, ob 8 [.ref xa, .ref xb, .ref xc, .ref xd, .ref xe, .ref xf, .ref xg, .int (iI vc), .int (iI vk), .int (iI vw), .ref xm, .ref xv, .int (iI vg), .ref xw, .int (iI vb), .int (iI vi), .ref xq, .int (iI ve), .int (iI vf), .int (iI vu), .int (iI vl), .ref xr, .ref xh, .ref xo, .ref xp, .int (iI vr), .int (iI va), .int (iI vt), .int (iI vm), .int (iI vd), .int (iI vx)]), (oz, aZ g nz fz)] 0 0 [(0, .ref h0), (1, .ref oz), (2, .int (iI ba)), (3, .int (iI x)), (4, .int (iI i))] 5 [] := by
    intro N
    induction N with
    | zero => intro i hi5_0 hN; exact absurd hN (Nat.not_lt_zero _)
    | succ N ihL5 =>
      intro i hi5_0 hN5
      refine v_iload fx 4 dX8_change_5 rfl rfl ?_
      refine v_aload_n fx 0 dX8_change_7 rfl rfl ?_
      refine v_get fx 0 9 inX8 k1005 dX8_change_8 rfl rfl (by decide) rfl rfl rfl ?_
      refine v_icmp_ge fx 50 dX8_change_11 (by decide) rfl (by omega) (by omega) (fun h_1 => ?_) (fun h_1 => ?_)
      ·
        refine v_iload fx 4 dX8_change_50 rfl rfl ?_
        refine v_aload_n fx 0 dX8_change_52 rfl rfl ?_
        refine v_get fx 0 9 inX8 k1005 dX8_change_53 rfl rfl (by decide) rfl rfl rfl ?_
        refine v_icmp_ge fx 64 dX8_change_56 (by decide) rfl (by omega) (by omega) (fun h_2 => ?_) (fun h_2 => ?_)
        ·
          refine v_aload_n fx 0 dX8_change_64 rfl rfl ?_
          refine v_get fx 0 9 inX8 k1005 dX8_change_65 rfl rfl (by decide) rfl rfl rfl ?_
          exact v_iret fx [(h0, ob 8 [.ref xa, .ref xb, .ref xc, .ref xd, .ref xe, .ref xf, .ref xg, .int (iI vc), .int (iI vk), .int (iI vw), .ref xm, .ref xv, .int (iI vg), .ref xw, .int (iI vb), .int (iI vi), .ref xq, .int (iI ve), .int (iI vf), .int (iI vu), .int (iI vl), .ref xr, .ref xh, .ref xo, .ref xp, .int (iI vr), .int (iI va), .int (iI vt), .int (iI vm), .int (iI vd), .int (iI vx)]), (oz, aZ g nz fz)] [0, 1] hr dX8_change_68 rfl rfl (nl rfl) (nl rfl) ⟨vw, rfl, rfl, (by first | omega | rfl | assumption)⟩
        ·
          refine v_iload fx 4 dX8_change_59 rfl rfl ?_
          refine v_goto fx 68 dX8_change_61 (by decide) ?_
          exact v_iret fx [(h0, ob 8 [.ref xa, .ref xb, .ref xc, .ref xd, .ref xe, .ref xf, .ref xg, .int (iI vc), .int (iI vk), .int (iI vw), .ref xm, .ref xv, .int (iI vg), .ref xw, .int (iI vb), .int (iI vi), .ref xq, .int (iI ve), .int (iI vf), .int (iI vu), .int (iI vl), .ref xr, .ref xh, .ref xo, .ref xp, .int (iI vr), .int (iI va), .int (iI vt), .int (iI vm), .int (iI vd), .int (iI vx)]), (oz, aZ g nz fz)] [0, 1] hr dX8_change_68 rfl rfl (nl rfl) (nl rfl) ⟨i, rfl, rfl, (by first | omega | rfl | assumption)⟩
      ·
        refine v_aload_n fx 1 dX8_change_14 rfl rfl ?_
        refine v_iload_n fx 2 dX8_change_15 rfl rfl ?_
        refine v_iload fx 4 dX8_change_16 rfl rfl ?_
        refine v_iadd fx (ba + i) dX8_change_18 (by rfl) rfl ?_
        refine v_zald fx 1 dX8_change_19 rfl (by omega) (by omega) rfl ?_
        refine v_any (fun z_3 hz_3 ez_3 => ?_)
        refine v_iload fx 4 dX8_change_20 rfl rfl ?_
        refine v_if_le fx 40 dX8_change_22 (by decide) rfl (by omega) (fun h_4 => ?_) (fun h_4 => ?_)
        ·
          refine v_iconst fx dX8_change_40 rfl ?_
          refine v_icmp_ne fx 50 dX8_change_41 (by decide) rfl (by omega) (by omega) (fun h_5 => ?_) (fun h_5 => ?_)
          ·
            refine v_iload fx 4 dX8_change_50 rfl rfl ?_
            refine v_aload_n fx 0 dX8_change_52 rfl rfl ?_
            refine v_get fx 0 9 inX8 k1005 dX8_change_53 rfl rfl (by decide) rfl rfl rfl ?_
            refine v_icmp_ge fx 64 dX8_change_56 (by decide) rfl (by omega) (by omega) (fun h_6 => ?_) (fun h_6 => ?_)
            ·
              refine v_aload_n fx 0 dX8_change_64 rfl rfl ?_
              refine v_get fx 0 9 inX8 k1005 dX8_change_65 rfl rfl (by decide) rfl rfl rfl ?_
              exact v_iret fx [(h0, ob 8 [.ref xa, .ref xb, .ref xc, .ref xd, .ref xe, .ref xf, .ref xg, .int (iI vc), .int (iI vk), .int (iI vw), .ref xm, .ref xv, .int (iI vg), .ref xw, .int (iI vb), .int (iI vi), .ref xq, .int (iI ve), .int (iI vf), .int (iI vu), .int (iI vl), .ref xr, .ref xh, .ref xo, .ref xp, .int (iI vr), .int (iI va), .int (iI vt), .int (iI vm), .int (iI vd), .int (iI vx)]), (oz, aZ g nz fz)] [0, 1] hr dX8_change_68 rfl rfl (nl rfl) (nl rfl) ⟨vw, rfl, rfl, (by first | omega | rfl | assumption)⟩
            ·
              refine v_iload fx 4 dX8_change_59 rfl rfl ?_
              refine v_goto fx 68 dX8_change_61 (by decide) ?_
              exact v_iret fx [(h0, ob 8 [.ref xa, .ref xb, .ref xc, .ref xd, .ref xe, .ref xf, .ref xg, .int (iI vc), .int (iI vk), .int (iI vw), .ref xm, .ref xv, .int (iI vg), .ref xw, .int (iI vb), .int (iI vi), .ref xq, .int (iI ve), .int (iI vf), .int (iI vu), .int (iI vl), .ref xr, .ref xh, .ref xo, .ref xp, .int (iI vr), .int (iI va), .int (iI vt), .int (iI vm), .int (iI vd), .int (iI vx)]), (oz, aZ g nz fz)] [0, 1] hr dX8_change_68 rfl rfl (nl rfl) (nl rfl) ⟨i, rfl, rfl, (by first | omega | rfl | assumption)⟩
          ·
            refine v_iinc fx 4 (i + 1) [(4, .int (iI (i + 1))), (0, .ref h0), (1, .ref oz), (2, .int (iI ba)), (3, .int (iI x))] dX8_change_44 rfl (by omega) (by decide) rfl rfl ?_
            refine v_goto fx 5 dX8_change_47 (by decide) ?_
            refine v_lv [1, 2, 3, 4, 0] [(0, .ref h0), (1, .ref oz), (2, .int (iI ba)), (3, .int (iI x)), (4, .int (iI (i + 1)))] rfl ?_
            exact ihL5 (i + 1) (by omega) (by omega)
        ·
          refine v_aload_n fx 1 dX8_change_25 rfl rfl ?_
          refine v_iload_n fx 2 dX8_change_26 rfl rfl ?_
          refine v_iload fx 4 dX8_change_27 rfl rfl ?_
          refine v_iadd fx (ba + i) dX8_change_29 (by rfl) rfl ?_
          refine v_iconst fx dX8_change_30 rfl ?_
          refine v_isub fx ((ba + i) - 1) dX8_change_31 (by rfl) rfl ?_
          refine v_zald fx 1 dX8_change_32 rfl (by omega) (by omega) rfl ?_
          refine v_any (fun z_7 hz_7 ez_7 => ?_)
          refine v_if_eq fx 40 dX8_change_33 (by decide) rfl (by omega) (fun h_8 => ?_) (fun h_8 => ?_)
          ·
            refine v_iconst fx dX8_change_40 rfl ?_
            refine v_icmp_ne fx 50 dX8_change_41 (by decide) rfl (by omega) (by omega) (fun h_9 => ?_) (fun h_9 => ?_)
            ·
              refine v_iload fx 4 dX8_change_50 rfl rfl ?_
              refine v_aload_n fx 0 dX8_change_52 rfl rfl ?_
              refine v_get fx 0 9 inX8 k1005 dX8_change_53 rfl rfl (by decide) rfl rfl rfl ?_
              refine v_icmp_ge fx 64 dX8_change_56 (by decide) rfl (by omega) (by omega) (fun h_10 => ?_) (fun h_10 => ?_)
              ·
                refine v_aload_n fx 0 dX8_change_64 rfl rfl ?_
                refine v_get fx 0 9 inX8 k1005 dX8_change_65 rfl rfl (by decide) rfl rfl rfl ?_
                exact v_iret fx [(h0, ob 8 [.ref xa, .ref xb, .ref xc, .ref xd, .ref xe, .ref xf, .ref xg, .int (iI vc), .int (iI vk), .int (iI vw), .ref xm, .ref xv, .int (iI vg), .ref xw, .int (iI vb), .int (iI vi), .ref xq, .int (iI ve), .int (iI vf), .int (iI vu), .int (iI vl), .ref xr, .ref xh, .ref xo, .ref xp, .int (iI vr), .int (iI va), .int (iI vt), .int (iI vm), .int (iI vd), .int (iI vx)]), (oz, aZ g nz fz)] [0, 1] hr dX8_change_68 rfl rfl (nl rfl) (nl rfl) ⟨vw, rfl, rfl, (by first | omega | rfl | assumption)⟩
              ·
                refine v_iload fx 4 dX8_change_59 rfl rfl ?_
                refine v_goto fx 68 dX8_change_61 (by decide) ?_
                exact v_iret fx [(h0, ob 8 [.ref xa, .ref xb, .ref xc, .ref xd, .ref xe, .ref xf, .ref xg, .int (iI vc), .int (iI vk), .int (iI vw), .ref xm, .ref xv, .int (iI vg), .ref xw, .int (iI vb), .int (iI vi), .ref xq, .int (iI ve), .int (iI vf), .int (iI vu), .int (iI vl), .ref xr, .ref xh, .ref xo, .ref xp, .int (iI vr), .int (iI va), .int (iI vt), .int (iI vm), .int (iI vd), .int (iI vx)]), (oz, aZ g nz fz)] [0, 1] hr dX8_change_68 rfl rfl (nl rfl) (nl rfl) ⟨i, rfl, rfl, (by first | omega | rfl | assumption)⟩
            ·
              refine v_iinc fx 4 (i + 1) [(4, .int (iI (i + 1))), (0, .ref h0), (1, .ref oz), (2, .int (iI ba)), (3, .int (iI x))] dX8_change_44 rfl (by omega) (by decide) rfl rfl ?_
              refine v_goto fx 5 dX8_change_47 (by decide) ?_
              refine v_lv [1, 2, 3, 4, 0] [(0, .ref h0), (1, .ref oz), (2, .int (iI ba)), (3, .int (iI x)), (4, .int (iI (i + 1)))] rfl ?_
              exact ihL5 (i + 1) (by omega) (by omega)
          ·
            refine v_iconst fx dX8_change_36 rfl ?_
            refine v_goto fx 41 dX8_change_37 (by decide) ?_
            refine v_icmp_ne fx 50 dX8_change_41 (by decide) rfl (by omega) (by omega) (fun h_11 => ?_) (fun h_11 => ?_)
            ·
              refine v_iload fx 4 dX8_change_50 rfl rfl ?_
              refine v_aload_n fx 0 dX8_change_52 rfl rfl ?_
              refine v_get fx 0 9 inX8 k1005 dX8_change_53 rfl rfl (by decide) rfl rfl rfl ?_
              refine v_icmp_ge fx 64 dX8_change_56 (by decide) rfl (by omega) (by omega) (fun h_12 => ?_) (fun h_12 => ?_)
              ·
                refine v_aload_n fx 0 dX8_change_64 rfl rfl ?_
                refine v_get fx 0 9 inX8 k1005 dX8_change_65 rfl rfl (by decide) rfl rfl rfl ?_
                exact v_iret fx [(h0, ob 8 [.ref xa, .ref xb, .ref xc, .ref xd, .ref xe, .ref xf, .ref xg, .int (iI vc), .int (iI vk), .int (iI vw), .ref xm, .ref xv, .int (iI vg), .ref xw, .int (iI vb), .int (iI vi), .ref xq, .int (iI ve), .int (iI vf), .int (iI vu), .int (iI vl), .ref xr, .ref xh, .ref xo, .ref xp, .int (iI vr), .int (iI va), .int (iI vt), .int (iI vm), .int (iI vd), .int (iI vx)]), (oz, aZ g nz fz)] [0, 1] hr dX8_change_68 rfl rfl (nl rfl) (nl rfl) ⟨vw, rfl, rfl, (by first | omega | rfl | assumption)⟩
              ·
                refine v_iload fx 4 dX8_change_59 rfl rfl ?_
                refine v_goto fx 68 dX8_change_61 (by decide) ?_
                exact v_iret fx [(h0, ob 8 [.ref xa, .ref xb, .ref xc, .ref xd, .ref xe, .ref xf, .ref xg, .int (iI vc), .int (iI vk), .int (iI vw), .ref xm, .ref xv, .int (iI vg), .ref xw, .int (iI vb), .int (iI vi), .ref xq, .int (iI ve), .int (iI vf), .int (iI vu), .int (iI vl), .ref xr, .ref xh, .ref xo, .ref xp, .int (iI vr), .int (iI va), .int (iI vt), .int (iI vm), .int (iI vd), .int (iI vx)]), (oz, aZ g nz fz)] [0, 1] hr dX8_change_68 rfl rfl (nl rfl) (nl rfl) ⟨i, rfl, rfl, (by first | omega | rfl | assumption)⟩
            ·
              refine v_iinc fx 4 (i + 1) [(4, .int (iI (i + 1))), (0, .ref h0), (1, .ref oz), (2, .int (iI ba)), (3, .int (iI x))] dX8_change_44 rfl (by omega) (by decide) rfl rfl ?_
              refine v_goto fx 5 dX8_change_47 (by decide) ?_
              refine v_lv [1, 2, 3, 4, 0] [(0, .ref h0), (1, .ref oz), (2, .int (iI ba)), (3, .int (iI x)), (4, .int (iI (i + 1)))] rfl ?_
              exact ihL5 (i + 1) (by omega) (by omega)
  refine v_lv [1, 2, 3, 4, 0] [(0, .ref h0), (1, .ref oz), (2, .int (iI ba)), (3, .int (iI x)), (4, .int (iI (x + 1)))] rfl ?_
  exact L5 _ (x + 1) (by omega) (Nat.lt_succ_self _)
theorem dX8_b1_0 : decode cX8_b1 0 = .ok (.iload_n 2, 1) := by decide +kernel
theorem dX8_b1_1 : decode cX8_b1 1 = .ok (.ifCond .ge 8, 3) := by decide +kernel
theorem dX8_b1_4 : decode cX8_b1 4 = .ok (.aload_n 0, 1) := by decide +kernel
theorem dX8_b1_5 : decode cX8_b1 5 = .ok (.getfield 63, 3) := by decide +kernel
theorem dX8_b1_8 : decode cX8_b1 8 = .ok (.ireturn, 1) := by decide +kernel
theorem dX8_b1_9 : decode cX8_b1 9 = .ok (.aload_n 0, 1) := by decide +kernel
theorem dX8_b1_10 : decode cX8_b1 10 = .ok (.aload_n 1, 1) := by decide +kernel
theorem dX8_b1_11 : decode cX8_b1 11 = .ok (.iload_n 2, 1) := by decide +kernel
theorem dX8_b1_12 : decode cX8_b1 12 = .ok (.iload_n 3, 1) := by decide +kernel
theorem dX8_b1_13 : decode cX8_b1 13 = .ok (.invokevirtual 94, 3) := by decide +kernel
theorem dX8_b1_16 : decode cX8_b1 16 = .ok (.istore 5, 2) := by decide +kernel
theorem dX8_b1_18 : decode cX8_b1 18 = .ok (.iload 5, 2) := by decide +kernel
theorem dX8_b1_20 : decode cX8_b1 20 = .ok (.aload_n 0, 1) := by decide +kernel
theorem dX8_b1_21 : decode cX8_b1 21 = .ok (.getfield 63, 3) := by decide +kernel
theorem dX8_b1_24 : decode cX8_b1 24 = .ok (.if_icmp .ge 25, 3) := by decide +kernel
theorem dX8_b1_27 : decode cX8_b1 27 = .ok (.aload_n 1, 1) := by decide +kernel
theorem dX8_b1_28 : decode cX8_b1 28 = .ok (.iload_n 2, 1) := by decide +kernel
theorem dX8_b1_29 : decode cX8_b1 29 = .ok (.iload 5, 2) := by decide +kernel
theorem dX8_b1_31 : decode cX8_b1 31 = .ok (.iadd, 1) := by decide +kernel
theorem dX8_b1_32 : decode cX8_b1 32 = .ok (.baload, 1) := by decide +kernel
theorem dX8_b1_33 : decode cX8_b1 33 = .ok (.iload 4, 2) := by decide +kernel
theorem dX8_b1_35 : decode cX8_b1 35 = .ok (.if_icmp .ne 14, 3) := by decide +kernel
theorem dX8_b1_38 : decode cX8_b1 38 = .ok (.aload_n 0, 1) := by decide +kernel
theorem dX8_b1_39 : decode cX8_b1 39 = .ok (.aload_n 1, 1) := by decide +kernel
theorem dX8_b1_40 : decode cX8_b1 40 = .ok (.iload_n 2, 1) := by decide +kernel
theorem dX8_b1_41 : decode cX8_b1 41 = .ok (.iload 5, 2) := by decide +kernel
theorem dX8_b1_43 : decode cX8_b1 43 = .ok (.invokevirtual 94, 3) := by decide +kernel
theorem dX8_b1_46 : decode cX8_b1 46 = .ok (.goto 5, 3) := by decide +kernel
theorem dX8_b1_49 : decode cX8_b1 49 = .ok (.iload 5, 2) := by decide +kernel
theorem dX8_b1_51 : decode cX8_b1 51 = .ok (.ireturn, 1) := by decide +kernel
abbrev po_c_X8_b1 (g : GG) (h0 : Nat) (xa : Nat) (xb : Nat) (xc : Nat) (xd : Nat) (xe : Nat) (xf : Nat) (xg : Nat) (xm : Nat) (xv : Nat) (xw : Nat) (xq : Nat) (xr : Nat) (xh : Nat) (xo : Nat) (xp : Nat) (vc : Int) (vk : Int) (vw : Int) (vg : Int) (vb : Int) (vi : Int) (ve : Int) (vf : Int) (vu : Int) (vl : Int) (vr : Int) (va : Int) (vt : Int) (vm : Int) (vd : Int) (vx : Int) (oz : Nat) (nz : Nat) (fz : Nat → Int32) (ba : Int) (x : Int) (bk : Int) : Option Value → va_W → Prop := fun v8 w8 => ∃ r : Int, v8 = some (.int (iI r)) ∧ w8 = [(h0, ob 8 [.ref xa, .ref xb, .ref xc, .ref xd, .ref xe, .ref xf, .ref xg, .int (iI vc), .int (iI vk), .int (iI vw), .ref xm, .ref xv, .int (iI vg), .ref xw, .int (iI vb), .int (iI vi), .ref xq, .int (iI ve), .int (iI vf), .int (iI vu), .int (iI vl), .ref xr, .ref xh, .ref xo, .ref xp, .int (iI vr), .int (iI va), .int (iI vt), .int (iI vm), .int (iI vd), .int (iI vx)]), (oz, aZ g nz fz)] ∧ (x < r ∧ r ≤ vw)
set_option maxHeartbeats 4000000 in
set_option maxRecDepth 100000 in
theorem c_X8_b1 (l : Launch) (g : GG) (h0 : Nat) (xa : Nat) (xb : Nat) (xc : Nat) (xd : Nat) (xe : Nat) (xf : Nat) (xg : Nat) (xm : Nat) (xv : Nat) (xw : Nat) (xq : Nat) (xr : Nat) (xh : Nat) (xo : Nat) (xp : Nat) (vc : Int) (vk : Int) (vw : Int) (vg : Int) (vb : Int) (vi : Int) (ve : Int) (vf : Int) (vu : Int) (vl : Int) (vr : Int) (va : Int) (vt : Int) (vm : Int) (vd : Int) (vx : Int) (oz : Nat) (nz : Nat) (fz : Nat → Int32) (ba : Int) (x : Int) (bk : Int) (hp0 : -1 ≤ ba ∧ ba + 3000 ≤ (nz : Int) ∧ (nz : Int) ≤ 100000) (hp1 : 1 ≤ vw ∧ vw ≤ 3000) (hp2 : -1 ≤ x ∧ x < vw) (hp3 : 0 ≤ bk ∧ bk ≤ 1) : Ct l g yX8_b1 (wM yX8_b1 cX8_b1 6 (some .int)) (rmD 1 0 0) [.ref h0, .ref oz, .int (iI ba), .int (iI x), .int (iI bk)] [(h0, ob 8 [.ref xa, .ref xb, .ref xc, .ref xd, .ref xe, .ref xf, .ref xg, .int (iI vc), .int (iI vk), .int (iI vw), .ref xm, .ref xv, .int (iI vg), .ref xw, .int (iI vb), .int (iI vi), .ref xq, .int (iI ve), .int (iI vf), .int (iI vu), .int (iI vl), .ref xr, .ref xh, .ref xo, .ref xp, .int (iI vr), .int (iI va), .int (iI vt), .int (iI vm), .int (iI vd), .int (iI vx)]), (oz, aZ g nz fz)] (po_c_X8_b1 g h0 xa xb xc xd xe xf xg xm xv xw xq xr xh xo xp vc vk vw vg vb vi ve vf vu vl vr va vt vm vd vx oz nz fz ba x bk) := by
  refine Ct_of (by decide +kernel) (Nat.le_of_ble_eq_true rfl) ?_
  intro p9 e9 s9 m9 ag9 bl9 mt9 c9 A9 fx hr hnm
  refine v_iload_n fx 2 dX8_b1_0 rfl rfl ?_
  refine v_if_ge fx 9 dX8_b1_1 (by decide) rfl (by omega) (fun h_1 => ?_) (fun h_1 => ?_)
  ·
    refine v_aload_n fx 0 dX8_b1_9 rfl rfl ?_
    refine v_aload_n fx 1 dX8_b1_10 rfl rfl ?_
    refine v_iload_n fx 2 dX8_b1_11 rfl rfl ?_
    refine v_iload_n fx 3 dX8_b1_12 rfl rfl ?_
    refine v_callV (As := [.ref oz, .int (iI ba), .int (iI x)]) (rest := []) fx [0, 1] [] [(h0, ob 8 [.ref xa, .ref xb, .ref xc, .ref xd, .ref xe, .ref xf, .ref xg, .int (iI vc), .int (iI vk), .int (iI vw), .ref xm, .ref xv, .int (iI vg), .ref xw, .int (iI vb), .int (iI vi), .ref xq, .int (iI ve), .int (iI vf), .int (iI vu), .int (iI vl), .ref xr, .ref xh, .ref xo, .ref xp, .int (iI vr), .int (iI va), .int (iI vt), .int (iI vm), .int (iI vd), .int (iI vx)]), (oz, aZ g nz fz)] [] 3 0 (c_X8_change l g h0 xa xb xc xd xe xf xg xm xv xw xq xr xh xo xp vc vk vw vg vb vi ve vf vu vl vr va vt vm vd vx oz nz fz ba x (by first | omega | decide | assumption) (by first | omega | decide | assumption) (by first | omega | decide | assumption)) dX8_b1_13 k1130 k1132 k28 k57 k1133 ykX8_change rfl rfl rfl rfl rfl rfl rfl rfl (nl rfl) ⟨nl rfl, nl rfl⟩ ⟨(nl rfl), (nl rfl)⟩ rfl (fun v9 w9 hu => ?_)
    obtain ⟨r_2, rfl, rfl, u_3⟩ := hu
    refine v_is (wn := [(h0, ob 8 [.ref xa, .ref xb, .ref xc, .ref xd, .ref xe, .ref xf, .ref xg, .int (iI vc), .int (iI vk), .int (iI vw), .ref xm, .ref xv, .int (iI vg), .ref xw, .int (iI vb), .int (iI vi), .ref xq, .int (iI ve), .int (iI vf), .int (iI vu), .int (iI vl), .ref xr, .ref xh, .ref xo, .ref xp, .int (iI vr), .int (iI va), .int (iI vt), .int (iI vm), .int (iI vd), .int (iI vx)]), (oz, aZ g nz fz)]) (cn := 0) (sn := 0) (sn2 := [.int (iI r_2)]) rfl rfl rfl rfl ?_
    refine v_istore fx [(5, .int (iI r_2)), (0, .ref h0), (1, .ref oz), (2, .int (iI ba)), (3, .int (iI x)), (4, .int (iI bk))] dX8_b1_16 (by decide) rfl rfl ?_
    refine v_iload fx 0 dX8_b1_18 rfl rfl ?_
    refine v_aload_n fx 1 dX8_b1_20 rfl rfl ?_
    refine v_get fx 0 9 inX8 k1005 dX8_b1_21 rfl rfl (by decide) rfl rfl rfl ?_
    refine v_icmp_ge fx 49 dX8_b1_24 (by decide) rfl (by omega) (by omega) (fun h_4 => ?_) (fun h_4 => ?_)
    ·
      refine v_iload fx 0 dX8_b1_49 rfl rfl ?_
      exact v_iret fx [(h0, ob 8 [.ref xa, .ref xb, .ref xc, .ref xd, .ref xe, .ref xf, .ref xg, .int (iI vc), .int (iI vk), .int (iI vw), .ref xm, .ref xv, .int (iI vg), .ref xw, .int (iI vb), .int (iI vi), .ref xq, .int (iI ve), .int (iI vf), .int (iI vu), .int (iI vl), .ref xr, .ref xh, .ref xo, .ref xp, .int (iI vr), .int (iI va), .int (iI vt), .int (iI vm), .int (iI vd), .int (iI vx)]), (oz, aZ g nz fz)] [0, 1] hr dX8_b1_51 rfl rfl (nl rfl) (nl rfl) ⟨r_2, rfl, rfl, (by first | omega | rfl | assumption)⟩
    ·
      refine v_aload_n fx 2 dX8_b1_27 rfl rfl ?_
      refine v_iload_n fx 3 dX8_b1_28 rfl rfl ?_
      refine v_iload fx 0 dX8_b1_29 rfl rfl ?_
      refine v_iadd fx (ba + r_2) dX8_b1_31 (by rfl) rfl ?_
      refine v_zald fx 1 dX8_b1_32 rfl (by omega) (by omega) rfl ?_
      refine v_any (fun z_5 hz_5 ez_5 => ?_)
      refine v_iload fx 5 dX8_b1_33 rfl rfl ?_
      refine v_icmp_ne fx 49 dX8_b1_35 (by decide) rfl (by omega) (by omega) (fun h_6 => ?_) (fun h_6 => ?_)
      ·
        refine v_iload fx 0 dX8_b1_49 rfl rfl ?_
        exact v_iret fx [(h0, ob 8 [.ref xa, .ref xb, .ref xc, .ref xd, .ref xe, .ref xf, .ref xg, .int (iI vc), .int (iI vk), .int (iI vw), .ref xm, .ref xv, .int (iI vg), .ref xw, .int (iI vb), .int (iI vi), .ref xq, .int (iI ve), .int (iI vf), .int (iI vu), .int (iI vl), .ref xr, .ref xh, .ref xo, .ref xp, .int (iI vr), .int (iI va), .int (iI vt), .int (iI vm), .int (iI vd), .int (iI vx)]), (oz, aZ g nz fz)] [0, 1] hr dX8_b1_51 rfl rfl (nl rfl) (nl rfl) ⟨r_2, rfl, rfl, (by first | omega | rfl | assumption)⟩
      ·
        refine v_aload_n fx 1 dX8_b1_38 rfl rfl ?_
        refine v_aload_n fx 2 dX8_b1_39 rfl rfl ?_
        refine v_iload_n fx 3 dX8_b1_40 rfl rfl ?_
        refine v_iload fx 0 dX8_b1_41 rfl rfl ?_
        refine v_callV (As := [.ref oz, .int (iI ba), .int (iI r_2)]) (rest := []) fx [0, 1] [] [(h0, ob 8 [.ref xa, .ref xb, .ref xc, .ref xd, .ref xe, .ref xf, .ref xg, .int (iI vc), .int (iI vk), .int (iI vw), .ref xm, .ref xv, .int (iI vg), .ref xw, .int (iI vb), .int (iI vi), .ref xq, .int (iI ve), .int (iI vf), .int (iI vu), .int (iI vl), .ref xr, .ref xh, .ref xo, .ref xp, .int (iI vr), .int (iI va), .int (iI vt), .int (iI vm), .int (iI vd), .int (iI vx)]), (oz, aZ g nz fz)] [] 3 0 (c_X8_change l g h0 xa xb xc xd xe xf xg xm xv xw xq xr xh xo xp vc vk vw vg vb vi ve vf vu vl vr va vt vm vd vx oz nz fz ba r_2 (by first | omega | decide | assumption) (by first | omega | decide | assumption) (by first | omega | decide | assumption)) dX8_b1_43 k1130 k1132 k28 k57 k1133 ykX8_change rfl rfl rfl rfl rfl rfl rfl rfl (nl rfl) ⟨nl rfl, nl rfl⟩ ⟨(nl rfl), (nl rfl)⟩ rfl (fun v9 w9 hu => ?_)
        obtain ⟨r_7, rfl, rfl, u_8⟩ := hu
        refine v_is (wn := [(h0, ob 8 [.ref xa, .ref xb, .ref xc, .ref xd, .ref xe, .ref xf, .ref xg, .int (iI vc), .int (iI vk), .int (iI vw), .ref xm, .ref xv, .int (iI vg), .ref xw, .int (iI vb), .int (iI vi), .ref xq, .int (iI ve), .int (iI vf), .int (iI vu), .int (iI vl), .ref xr, .ref xh, .ref xo, .ref xp, .int (iI vr), .int (iI va), .int (iI vt), .int (iI vm), .int (iI vd), .int (iI vx)]), (oz, aZ g nz fz)]) (cn := 0) (sn := 0) (sn2 := [.int (iI r_7)]) rfl rfl rfl rfl ?_
        refine v_goto fx 51 dX8_b1_46 (by decide) ?_
        exact v_iret fx [(h0, ob 8 [.ref xa, .ref xb, .ref xc, .ref xd, .ref xe, .ref xf, .ref xg, .int (iI vc), .int (iI vk), .int (iI vw), .ref xm, .ref xv, .int (iI vg), .ref xw, .int (iI vb), .int (iI vi), .ref xq, .int (iI ve), .int (iI vf), .int (iI vu), .int (iI vl), .ref xr, .ref xh, .ref xo, .ref xp, .int (iI vr), .int (iI va), .int (iI vt), .int (iI vm), .int (iI vd), .int (iI vx)]), (oz, aZ g nz fz)] [0, 1] hr dX8_b1_51 rfl rfl (nl rfl) (nl rfl) ⟨r_7, rfl, rfl, (by first | omega | rfl | assumption)⟩
  ·
    refine v_aload_n fx 0 dX8_b1_4 rfl rfl ?_
    refine v_get fx 0 9 inX8 k1005 dX8_b1_5 rfl rfl (by decide) rfl rfl rfl ?_
    exact v_iret fx [(h0, ob 8 [.ref xa, .ref xb, .ref xc, .ref xd, .ref xe, .ref xf, .ref xg, .int (iI vc), .int (iI vk), .int (iI vw), .ref xm, .ref xv, .int (iI vg), .ref xw, .int (iI vb), .int (iI vi), .ref xq, .int (iI ve), .int (iI vf), .int (iI vu), .int (iI vl), .ref xr, .ref xh, .ref xo, .ref xp, .int (iI vr), .int (iI va), .int (iI vt), .int (iI vm), .int (iI vd), .int (iI vx)]), (oz, aZ g nz fz)] [0, 1] hr dX8_b1_8 rfl rfl (nl rfl) (nl rfl) ⟨vw, rfl, rfl, (by first | omega | rfl | assumption)⟩
theorem dX8_b2_0 : decode cX8_b2 0 = .ok (.iload_n 2, 1) := by decide +kernel
theorem dX8_b2_1 : decode cX8_b2 1 = .ok (.ifCond .lt 11, 3) := by decide +kernel
theorem dX8_b2_4 : decode cX8_b2 4 = .ok (.iload_n 3, 1) := by decide +kernel
theorem dX8_b2_5 : decode cX8_b2 5 = .ok (.aload_n 0, 1) := by decide +kernel
theorem dX8_b2_6 : decode cX8_b2 6 = .ok (.getfield 63, 3) := by decide +kernel
theorem dX8_b2_9 : decode cX8_b2 9 = .ok (.if_icmp .lt 10, 3) := by decide +kernel
theorem dX8_b2_12 : decode cX8_b2 12 = .ok (.aload_n 0, 1) := by decide +kernel
theorem dX8_b2_13 : decode cX8_b2 13 = .ok (.getfield 63, 3) := by decide +kernel
theorem dX8_b2_16 : decode cX8_b2 16 = .ok (.goto 10, 3) := by decide +kernel
theorem dX8_b2_19 : decode cX8_b2 19 = .ok (.aload_n 0, 1) := by decide +kernel
theorem dX8_b2_20 : decode cX8_b2 20 = .ok (.aload_n 1, 1) := by decide +kernel
theorem dX8_b2_21 : decode cX8_b2 21 = .ok (.iload_n 2, 1) := by decide +kernel
theorem dX8_b2_22 : decode cX8_b2 22 = .ok (.iload_n 3, 1) := by decide +kernel
theorem dX8_b2_23 : decode cX8_b2 23 = .ok (.invokevirtual 94, 3) := by decide +kernel
theorem dX8_b2_26 : decode cX8_b2 26 = .ok (.ireturn, 1) := by decide +kernel
abbrev po_c_X8_b2 (g : GG) (h0 : Nat) (xa : Nat) (xb : Nat) (xc : Nat) (xd : Nat) (xe : Nat) (xf : Nat) (xg : Nat) (xm : Nat) (xv : Nat) (xw : Nat) (xq : Nat) (xr : Nat) (xh : Nat) (xo : Nat) (xp : Nat) (vc : Int) (vk : Int) (vw : Int) (vg : Int) (vb : Int) (vi : Int) (ve : Int) (vf : Int) (vu : Int) (vl : Int) (vr : Int) (va : Int) (vt : Int) (vm : Int) (vd : Int) (vx : Int) (oz : Nat) (nz : Nat) (fz : Nat → Int32) (ba : Int) (x : Int) : Option Value → va_W → Prop := fun v8 w8 => ∃ r : Int, v8 = some (.int (iI r)) ∧ w8 = [(h0, ob 8 [.ref xa, .ref xb, .ref xc, .ref xd, .ref xe, .ref xf, .ref xg, .int (iI vc), .int (iI vk), .int (iI vw), .ref xm, .ref xv, .int (iI vg), .ref xw, .int (iI vb), .int (iI vi), .ref xq, .int (iI ve), .int (iI vf), .int (iI vu), .int (iI vl), .ref xr, .ref xh, .ref xo, .ref xp, .int (iI vr), .int (iI va), .int (iI vt), .int (iI vm), .int (iI vd), .int (iI vx)]), (oz, aZ g nz fz)] ∧ (x ≤ r ∧ r ≤ vw)
set_option maxHeartbeats 4000000 in
set_option maxRecDepth 100000 in
theorem c_X8_b2 (l : Launch) (g : GG) (h0 : Nat) (xa : Nat) (xb : Nat) (xc : Nat) (xd : Nat) (xe : Nat) (xf : Nat) (xg : Nat) (xm : Nat) (xv : Nat) (xw : Nat) (xq : Nat) (xr : Nat) (xh : Nat) (xo : Nat) (xp : Nat) (vc : Int) (vk : Int) (vw : Int) (vg : Int) (vb : Int) (vi : Int) (ve : Int) (vf : Int) (vu : Int) (vl : Int) (vr : Int) (va : Int) (vt : Int) (vm : Int) (vd : Int) (vx : Int) (oz : Nat) (nz : Nat) (fz : Nat → Int32) (ba : Int) (x : Int) (hp0 : -1 ≤ ba ∧ ba + 3000 ≤ (nz : Int) ∧ (nz : Int) ≤ 100000) (hp1 : 1 ≤ vw ∧ vw ≤ 3000) (hp2 : 0 ≤ x ∧ x ≤ vw) : Ct l g yX8_b2 (wM yX8_b2 cX8_b2 4 (some .int)) (rmD 1 0 0) [.ref h0, .ref oz, .int (iI ba), .int (iI x)] [(h0, ob 8 [.ref xa, .ref xb, .ref xc, .ref xd, .ref xe, .ref xf, .ref xg, .int (iI vc), .int (iI vk), .int (iI vw), .ref xm, .ref xv, .int (iI vg), .ref xw, .int (iI vb), .int (iI vi), .ref xq, .int (iI ve), .int (iI vf), .int (iI vu), .int (iI vl), .ref xr, .ref xh, .ref xo, .ref xp, .int (iI vr), .int (iI va), .int (iI vt), .int (iI vm), .int (iI vd), .int (iI vx)]), (oz, aZ g nz fz)] (po_c_X8_b2 g h0 xa xb xc xd xe xf xg xm xv xw xq xr xh xo xp vc vk vw vg vb vi ve vf vu vl vr va vt vm vd vx oz nz fz ba x) := by
  refine Ct_of (by decide +kernel) (Nat.le_of_ble_eq_true rfl) ?_
  intro p9 e9 s9 m9 ag9 bl9 mt9 c9 A9 fx hr hnm
  refine v_iload_n fx 2 dX8_b2_0 rfl rfl ?_
  refine v_if_lt fx 12 dX8_b2_1 (by decide) rfl (by omega) (fun h_1 => ?_) (fun h_1 => ?_)
  ·
    refine v_aload_n fx 0 dX8_b2_12 rfl rfl ?_
    refine v_get fx 0 9 inX8 k1005 dX8_b2_13 rfl rfl (by decide) rfl rfl rfl ?_
    refine v_goto fx 26 dX8_b2_16 (by decide) ?_
    exact v_iret fx [(h0, ob 8 [.ref xa, .ref xb, .ref xc, .ref xd, .ref xe, .ref xf, .ref xg, .int (iI vc), .int (iI vk), .int (iI vw), .ref xm, .ref xv, .int (iI vg), .ref xw, .int (iI vb), .int (iI vi), .ref xq, .int (iI ve), .int (iI vf), .int (iI vu), .int (iI vl), .ref xr, .ref xh, .ref xo, .ref xp, .int (iI vr), .int (iI va), .int (iI vt), .int (iI vm), .int (iI vd), .int (iI vx)]), (oz, aZ g nz fz)] [0, 1] hr dX8_b2_26 rfl rfl (nl rfl) (nl rfl) ⟨vw, rfl, rfl, (by first | omega | rfl | assumption)⟩
  ·
    refine v_iload_n fx 3 dX8_b2_4 rfl rfl ?_
    refine v_aload_n fx 0 dX8_b2_5 rfl rfl ?_
    refine v_get fx 0 9 inX8 k1005 dX8_b2_6 rfl rfl (by decide) rfl rfl rfl ?_
    refine v_icmp_lt fx 19 dX8_b2_9 (by decide) rfl (by omega) (by omega) (fun h_2 => ?_) (fun h_2 => ?_)
    ·
      refine v_aload_n fx 0 dX8_b2_19 rfl rfl ?_
      refine v_aload_n fx 1 dX8_b2_20 rfl rfl ?_
      refine v_iload_n fx 2 dX8_b2_21 rfl rfl ?_
      refine v_iload_n fx 3 dX8_b2_22 rfl rfl ?_
      refine v_callV (As := [.ref oz, .int (iI ba), .int (iI x)]) (rest := []) fx [0, 1] [] [(h0, ob 8 [.ref xa, .ref xb, .ref xc, .ref xd, .ref xe, .ref xf, .ref xg, .int (iI vc), .int (iI vk), .int (iI vw), .ref xm, .ref xv, .int (iI vg), .ref xw, .int (iI vb), .int (iI vi), .ref xq, .int (iI ve), .int (iI vf), .int (iI vu), .int (iI vl), .ref xr, .ref xh, .ref xo, .ref xp, .int (iI vr), .int (iI va), .int (iI vt), .int (iI vm), .int (iI vd), .int (iI vx)]), (oz, aZ g nz fz)] [] 3 0 (c_X8_change l g h0 xa xb xc xd xe xf xg xm xv xw xq xr xh xo xp vc vk vw vg vb vi ve vf vu vl vr va vt vm vd vx oz nz fz ba x (by first | omega | decide | assumption) (by first | omega | decide | assumption) (by first | omega | decide | assumption)) dX8_b2_23 k1130 k1132 k28 k57 k1133 ykX8_change rfl rfl rfl rfl rfl rfl rfl rfl (nl rfl) ⟨nl rfl, nl rfl⟩ ⟨(nl rfl), (nl rfl)⟩ rfl (fun v9 w9 hu => ?_)
      obtain ⟨r_3, rfl, rfl, u_4⟩ := hu
      refine v_is (wn := [(h0, ob 8 [.ref xa, .ref xb, .ref xc, .ref xd, .ref xe, .ref xf, .ref xg, .int (iI vc), .int (iI vk), .int (iI vw), .ref xm, .ref xv, .int (iI vg), .ref xw, .int (iI vb), .int (iI vi), .ref xq, .int (iI ve), .int (iI vf), .int (iI vu), .int (iI vl), .ref xr, .ref xh, .ref xo, .ref xp, .int (iI vr), .int (iI va), .int (iI vt), .int (iI vm), .int (iI vd), .int (iI vx)]), (oz, aZ g nz fz)]) (cn := 0) (sn := 0) (sn2 := [.int (iI r_3)]) rfl rfl rfl rfl ?_
      exact v_iret fx [(h0, ob 8 [.ref xa, .ref xb, .ref xc, .ref xd, .ref xe, .ref xf, .ref xg, .int (iI vc), .int (iI vk), .int (iI vw), .ref xm, .ref xv, .int (iI vg), .ref xw, .int (iI vb), .int (iI vi), .ref xq, .int (iI ve), .int (iI vf), .int (iI vu), .int (iI vl), .ref xr, .ref xh, .ref xo, .ref xp, .int (iI vr), .int (iI va), .int (iI vt), .int (iI vm), .int (iI vd), .int (iI vx)]), (oz, aZ g nz fz)] [0, 1] hr dX8_b2_26 rfl rfl (nl rfl) (nl rfl) ⟨r_3, rfl, rfl, (by first | omega | rfl | assumption)⟩
    ·
      refine v_aload_n fx 0 dX8_b2_12 rfl rfl ?_
      refine v_get fx 0 9 inX8 k1005 dX8_b2_13 rfl rfl (by decide) rfl rfl rfl ?_
      refine v_goto fx 26 dX8_b2_16 (by decide) ?_
      exact v_iret fx [(h0, ob 8 [.ref xa, .ref xb, .ref xc, .ref xd, .ref xe, .ref xf, .ref xg, .int (iI vc), .int (iI vk), .int (iI vw), .ref xm, .ref xv, .int (iI vg), .ref xw, .int (iI vb), .int (iI vi), .ref xq, .int (iI ve), .int (iI vf), .int (iI vu), .int (iI vl), .ref xr, .ref xh, .ref xo, .ref xp, .int (iI vr), .int (iI va), .int (iI vt), .int (iI vm), .int (iI vd), .int (iI vx)]), (oz, aZ g nz fz)] [0, 1] hr dX8_b2_26 rfl rfl (nl rfl) (nl rfl) ⟨vw, rfl, rfl, (by first | omega | rfl | assumption)⟩
theorem dX8_vertical_0 : decode cX8_vertical 0 = .ok (.iload_n 1, 1) := by decide +kernel
theorem dX8_vertical_1 : decode cX8_vertical 1 = .ok (.ifCond .ne 11, 3) := by decide +kernel
theorem dX8_vertical_4 : decode cX8_vertical 4 = .ok (.aload_n 0, 1) := by decide +kernel
theorem dX8_vertical_5 : decode cX8_vertical 5 = .ok (.iconst 1, 1) := by decide +kernel
theorem dX8_vertical_6 : decode cX8_vertical 6 = .ok (.invokevirtual 79, 3) := by decide +kernel
theorem dX8_vertical_9 : decode cX8_vertical 9 = .ok (.goto 48, 3) := by decide +kernel
theorem dX8_vertical_12 : decode cX8_vertical 12 = .ok (.iload_n 1, 1) := by decide +kernel
theorem dX8_vertical_13 : decode cX8_vertical 13 = .ok (.ifCond .ge 8, 3) := by decide +kernel
theorem dX8_vertical_16 : decode cX8_vertical 16 = .ok (.iload_n 1, 1) := by decide +kernel
theorem dX8_vertical_17 : decode cX8_vertical 17 = .ok (.ineg, 1) := by decide +kernel
theorem dX8_vertical_18 : decode cX8_vertical 18 = .ok (.goto 4, 3) := by decide +kernel
theorem dX8_vertical_21 : decode cX8_vertical 21 = .ok (.iload_n 1, 1) := by decide +kernel
theorem dX8_vertical_22 : decode cX8_vertical 22 = .ok (.istore_n 2, 1) := by decide +kernel
theorem dX8_vertical_23 : decode cX8_vertical 23 = .ok (.aload_n 0, 1) := by decide +kernel
theorem dX8_vertical_24 : decode cX8_vertical 24 = .ok (.iload_n 1, 1) := by decide +kernel
theorem dX8_vertical_25 : decode cX8_vertical 25 = .ok (.ifCond .le 7, 3) := by decide +kernel
theorem dX8_vertical_28 : decode cX8_vertical 28 = .ok (.iconst 3, 1) := by decide +kernel
theorem dX8_vertical_29 : decode cX8_vertical 29 = .ok (.goto 4, 3) := by decide +kernel
theorem dX8_vertical_32 : decode cX8_vertical 32 = .ok (.iconst 2, 1) := by decide +kernel
theorem dX8_vertical_33 : decode cX8_vertical 33 = .ok (.iload_n 2, 1) := by decide +kernel
theorem dX8_vertical_34 : decode cX8_vertical 34 = .ok (.iconst 1, 1) := by decide +kernel
theorem dX8_vertical_35 : decode cX8_vertical 35 = .ok (.if_icmp .ne 7, 3) := by decide +kernel
theorem dX8_vertical_38 : decode cX8_vertical 38 = .ok (.iconst 3, 1) := by decide +kernel
theorem dX8_vertical_39 : decode cX8_vertical 39 = .ok (.goto 15, 3) := by decide +kernel
theorem dX8_vertical_42 : decode cX8_vertical 42 = .ok (.iload_n 2, 1) := by decide +kernel
theorem dX8_vertical_43 : decode cX8_vertical 43 = .ok (.iconst 2, 1) := by decide +kernel
theorem dX8_vertical_44 : decode cX8_vertical 44 = .ok (.if_icmp .ne 8, 3) := by decide +kernel
theorem dX8_vertical_47 : decode cX8_vertical 47 = .ok (.bipush 6, 2) := by decide +kernel
theorem dX8_vertical_49 : decode cX8_vertical 49 = .ok (.goto 5, 3) := by decide +kernel
theorem dX8_vertical_52 : decode cX8_vertical 52 = .ok (.bipush 7, 2) := by decide +kernel
theorem dX8_vertical_54 : decode cX8_vertical 54 = .ok (.invokevirtual 83, 3) := by decide +kernel
theorem dX8_vertical_57 : decode cX8_vertical 57 = .ok (.return_, 1) := by decide +kernel
abbrev po_c_X8_vertical (g : GG) (h0 : Nat) (xa : Nat) (xb : Nat) (xc : Nat) (xd : Nat) (xe : Nat) (xf : Nat) (xg : Nat) (xm : Nat) (xv : Nat) (xw : Nat) (xq : Nat) (xr : Nat) (xh : Nat) (xo : Nat) (xp : Nat) (vc : Int) (vk : Int) (vw : Int) (vg : Int) (vb : Int) (vi : Int) (ve : Int) (vf : Int) (vu : Int) (vl : Int) (vr : Int) (va : Int) (vt : Int) (vm : Int) (vd : Int) (vx : Int) (f : Nat → Int32) (x : Int) : Option Value → va_W → Prop := fun v8 w8 => ∃ b2 : Int, ∃ f2 : Nat → Int32, v8 = none ∧ w8 = [(h0, ob 8 [.ref xa, .ref xb, .ref xc, .ref xd, .ref xe, .ref xf, .ref xg, .int (iI vc), .int (iI vk), .int (iI vw), .ref xm, .ref xv, .int (iI vg), .ref xw, .int (iI b2), .int (iI vi), .ref xq, .int (iI ve), .int (iI vf), .int (iI vu), .int (iI vl), .ref xr, .ref xh, .ref xo, .ref xp, .int (iI vr), .int (iI va), .int (iI vt), .int (iI vm), .int (iI vd), .int (iI vx)]), (xw, aI g 72000 f2)] ∧ (vb ≤ b2 ∧ b2 ≤ vb + 7)
set_option maxHeartbeats 4000000 in
set_option maxRecDepth 100000 in
theorem c_X8_vertical (l : Launch) (g : GG) (h0 : Nat) (xa : Nat) (xb : Nat) (xc : Nat) (xd : Nat) (xe : Nat) (xf : Nat) (xg : Nat) (xm : Nat) (xv : Nat) (xw : Nat) (xq : Nat) (xr : Nat) (xh : Nat) (xo : Nat) (xp : Nat) (vc : Int) (vk : Int) (vw : Int) (vg : Int) (vb : Int) (vi : Int) (ve : Int) (vf : Int) (vu : Int) (vl : Int) (vr : Int) (va : Int) (vt : Int) (vm : Int) (vd : Int) (vx : Int) (f : Nat → Int32) (x : Int) (hp0 : 0 ≤ vb ∧ vb + 7 ≤ 576000) (hp1 : 0 ≤ vl ∧ vl ≤ 1) (hp2 : -3 ≤ x ∧ x ≤ 3) : Ct l g yX8_vertical (wM yX8_vertical cX8_vertical 3 none) (rmD 2 0 0) [.ref h0, .int (iI x)] [(h0, ob 8 [.ref xa, .ref xb, .ref xc, .ref xd, .ref xe, .ref xf, .ref xg, .int (iI vc), .int (iI vk), .int (iI vw), .ref xm, .ref xv, .int (iI vg), .ref xw, .int (iI vb), .int (iI vi), .ref xq, .int (iI ve), .int (iI vf), .int (iI vu), .int (iI vl), .ref xr, .ref xh, .ref xo, .ref xp, .int (iI vr), .int (iI va), .int (iI vt), .int (iI vm), .int (iI vd), .int (iI vx)]), (xw, aI g 72000 f)] (po_c_X8_vertical g h0 xa xb xc xd xe xf xg xm xv xw xq xr xh xo xp vc vk vw vg vb vi ve vf vu vl vr va vt vm vd vx f x) := by
  refine Ct_of (by decide +kernel) (Nat.le_of_ble_eq_true rfl) ?_
  intro p9 e9 s9 m9 ag9 bl9 mt9 c9 A9 fx hr hnm
  refine v_iload_n fx 1 dX8_vertical_0 rfl rfl ?_
  refine v_if_ne fx 12 dX8_vertical_1 (by decide) rfl (by omega) (fun h_1 => ?_) (fun h_1 => ?_)
  ·
    refine v_iload_n fx 1 dX8_vertical_12 rfl rfl ?_
    refine v_if_ge fx 21 dX8_vertical_13 (by decide) rfl (by omega) (fun h_2 => ?_) (fun h_2 => ?_)
    ·
      refine v_iload_n fx 1 dX8_vertical_21 rfl rfl ?_
      refine v_istore_n fx [(2, .int (iI x)), (0, .ref h0), (1, .int (iI x))] dX8_vertical_22 (by decide) rfl rfl ?_
      refine v_aload_n fx 1 dX8_vertical_23 rfl rfl ?_
      refine v_iload_n fx 2 dX8_vertical_24 rfl rfl ?_
      refine v_if_le fx 32 dX8_vertical_25 (by decide) rfl (by omega) (fun h_3 => ?_) (fun h_3 => ?_)
      ·
        refine v_iconst fx dX8_vertical_32 rfl ?_
        refine v_iload_n fx 0 dX8_vertical_33 rfl rfl ?_
        refine v_iconst fx dX8_vertical_34 rfl ?_
        refine v_icmp_ne fx 42 dX8_vertical_35 (by decide) rfl (by omega) (by omega) (fun h_4 => ?_) (fun h_4 => ?_)
        ·
          refine v_iload_n fx 0 dX8_vertical_42 rfl rfl ?_
          refine v_iconst fx dX8_vertical_43 rfl ?_
          refine v_icmp_ne fx 52 dX8_vertical_44 (by decide) rfl (by omega) (by omega) (fun h_5 => ?_) (fun h_5 => ?_)
          ·
            refine v_bipush fx dX8_vertical_52 (by decide +kernel) rfl ?_
            refine v_callV (As := [.int (iI 2), .int (iI 7)]) (rest := []) fx [0, 1] [] [(h0, ob 8 [.ref xa, .ref xb, .ref xc, .ref xd, .ref xe, .ref xf, .ref xg, .int (iI vc), .int (iI vk), .int (iI vw), .ref xm, .ref xv, .int (iI vg), .ref xw, .int (iI vb), .int (iI vi), .ref xq, .int (iI ve), .int (iI vf), .int (iI vu), .int (iI vl), .ref xr, .ref xh, .ref xo, .ref xp, .int (iI vr), .int (iI va), .int (iI vt), .int (iI vm), .int (iI vd), .int (iI vx)]), (xw, aI g 72000 f)] [] 2 0 (c_X8_number l g h0 xa xb xc xd xe xf xg xm xv xw xq xr xh xo xp vc vk vw vg vb vi ve vf vu vl vr va vt vm vd vx f (iI 2) 7 (by first | omega | decide | assumption) (by first | omega | decide | assumption)) dX8_vertical_54 k1106 k1108 k22 k57 k1109 ykX8_number rfl rfl rfl rfl rfl rfl rfl rfl (nl rfl) ⟨nl rfl, nl rfl⟩ ⟨(nl rfl), (nl rfl)⟩ rfl (fun v9 w9 hu => ?_)
            obtain ⟨b2_6, f2_7, rfl, rfl, u_8⟩ := hu
            refine v_is (wn := [(h0, ob 8 [.ref xa, .ref xb, .ref xc, .ref xd, .ref xe, .ref xf, .ref xg, .int (iI vc), .int (iI vk), .int (iI vw), .ref xm, .ref xv, .int (iI vg), .ref xw, .int (iI b2_6), .int (iI vi), .ref xq, .int (iI ve), .int (iI vf), .int (iI vu), .int (iI vl), .ref xr, .ref xh, .ref xo, .ref xp, .int (iI vr), .int (iI va), .int (iI vt), .int (iI vm), .int (iI vd), .int (iI vx)]), (xw, aI g 72000 f2_7)]) (cn := 0) (sn := 0) (sn2 := []) rfl rfl rfl rfl ?_
            exact v_vret fx [(h0, ob 8 [.ref xa, .ref xb, .ref xc, .ref xd, .ref xe, .ref xf, .ref xg, .int (iI vc), .int (iI vk), .int (iI vw), .ref xm, .ref xv, .int (iI vg), .ref xw, .int (iI b2_6), .int (iI vi), .ref xq, .int (iI ve), .int (iI vf), .int (iI vu), .int (iI vl), .ref xr, .ref xh, .ref xo, .ref xp, .int (iI vr), .int (iI va), .int (iI vt), .int (iI vm), .int (iI vd), .int (iI vx)]), (xw, aI g 72000 f2_7)] [0, 1] hr dX8_vertical_57 rfl rfl (nl rfl) (nl rfl) ⟨b2_6, f2_7, rfl, rfl, (by first | omega | rfl | assumption)⟩
          ·
            refine v_bipush fx dX8_vertical_47 (by decide +kernel) rfl ?_
            refine v_goto fx 54 dX8_vertical_49 (by decide) ?_
            refine v_callV (As := [.int (iI 2), .int (iI 6)]) (rest := []) fx [0, 1] [] [(h0, ob 8 [.ref xa, .ref xb, .ref xc, .ref xd, .ref xe, .ref xf, .ref xg, .int (iI vc), .int (iI vk), .int (iI vw), .ref xm, .ref xv, .int (iI vg), .ref xw, .int (iI vb), .int (iI vi), .ref xq, .int (iI ve), .int (iI vf), .int (iI vu), .int (iI vl), .ref xr, .ref xh, .ref xo, .ref xp, .int (iI vr), .int (iI va), .int (iI vt), .int (iI vm), .int (iI vd), .int (iI vx)]), (xw, aI g 72000 f)] [] 2 0 (c_X8_number l g h0 xa xb xc xd xe xf xg xm xv xw xq xr xh xo xp vc vk vw vg vb vi ve vf vu vl vr va vt vm vd vx f (iI 2) 6 (by first | omega | decide | assumption) (by first | omega | decide | assumption)) dX8_vertical_54 k1106 k1108 k22 k57 k1109 ykX8_number rfl rfl rfl rfl rfl rfl rfl rfl (nl rfl) ⟨nl rfl, nl rfl⟩ ⟨(nl rfl), (nl rfl)⟩ rfl (fun v9 w9 hu => ?_)
            obtain ⟨b2_9, f2_10, rfl, rfl, u_11⟩ := hu
            refine v_is (wn := [(h0, ob 8 [.ref xa, .ref xb, .ref xc, .ref xd, .ref xe, .ref xf, .ref xg, .int (iI vc), .int (iI vk), .int (iI vw), .ref xm, .ref xv, .int (iI vg), .ref xw, .int (iI b2_9), .int (iI vi), .ref xq, .int (iI ve), .int (iI vf), .int (iI vu), .int (iI vl), .ref xr, .ref xh, .ref xo, .ref xp, .int (iI vr), .int (iI va), .int (iI vt), .int (iI vm), .int (iI vd), .int (iI vx)]), (xw, aI g 72000 f2_10)]) (cn := 0) (sn := 0) (sn2 := []) rfl rfl rfl rfl ?_
            exact v_vret fx [(h0, ob 8 [.ref xa, .ref xb, .ref xc, .ref xd, .ref xe, .ref xf, .ref xg, .int (iI vc), .int (iI vk), .int (iI vw), .ref xm, .ref xv, .int (iI vg), .ref xw, .int (iI b2_9), .int (iI vi), .ref xq, .int (iI ve), .int (iI vf), .int (iI vu), .int (iI vl), .ref xr, .ref xh, .ref xo, .ref xp, .int (iI vr), .int (iI va), .int (iI vt), .int (iI vm), .int (iI vd), .int (iI vx)]), (xw, aI g 72000 f2_10)] [0, 1] hr dX8_vertical_57 rfl rfl (nl rfl) (nl rfl) ⟨b2_9, f2_10, rfl, rfl, (by first | omega | rfl | assumption)⟩
        ·
          refine v_iconst fx dX8_vertical_38 rfl ?_
          refine v_goto fx 54 dX8_vertical_39 (by decide) ?_
          refine v_callV (As := [.int (iI 2), .int (iI 3)]) (rest := []) fx [0, 1] [] [(h0, ob 8 [.ref xa, .ref xb, .ref xc, .ref xd, .ref xe, .ref xf, .ref xg, .int (iI vc), .int (iI vk), .int (iI vw), .ref xm, .ref xv, .int (iI vg), .ref xw, .int (iI vb), .int (iI vi), .ref xq, .int (iI ve), .int (iI vf), .int (iI vu), .int (iI vl), .ref xr, .ref xh, .ref xo, .ref xp, .int (iI vr), .int (iI va), .int (iI vt), .int (iI vm), .int (iI vd), .int (iI vx)]), (xw, aI g 72000 f)] [] 2 0 (c_X8_number l g h0 xa xb xc xd xe xf xg xm xv xw xq xr xh xo xp vc vk vw vg vb vi ve vf vu vl vr va vt vm vd vx f (iI 2) 3 (by first | omega | decide | assumption) (by first | omega | decide | assumption)) dX8_vertical_54 k1106 k1108 k22 k57 k1109 ykX8_number rfl rfl rfl rfl rfl rfl rfl rfl (nl rfl) ⟨nl rfl, nl rfl⟩ ⟨(nl rfl), (nl rfl)⟩ rfl (fun v9 w9 hu => ?_)
          obtain ⟨b2_12, f2_13, rfl, rfl, u_14⟩ := hu
          refine v_is (wn := [(h0, ob 8 [.ref xa, .ref xb, .ref xc, .ref xd, .ref xe, .ref xf, .ref xg, .int (iI vc), .int (iI vk), .int (iI vw), .ref xm, .ref xv, .int (iI vg), .ref xw, .int (iI b2_12), .int (iI vi), .ref xq, .int (iI ve), .int (iI vf), .int (iI vu), .int (iI vl), .ref xr, .ref xh, .ref xo, .ref xp, .int (iI vr), .int (iI va), .int (iI vt), .int (iI vm), .int (iI vd), .int (iI vx)]), (xw, aI g 72000 f2_13)]) (cn := 0) (sn := 0) (sn2 := []) rfl rfl rfl rfl ?_
          exact v_vret fx [(h0, ob 8 [.ref xa, .ref xb, .ref xc, .ref xd, .ref xe, .ref xf, .ref xg, .int (iI vc), .int (iI vk), .int (iI vw), .ref xm, .ref xv, .int (iI vg), .ref xw, .int (iI b2_12), .int (iI vi), .ref xq, .int (iI ve), .int (iI vf), .int (iI vu), .int (iI vl), .ref xr, .ref xh, .ref xo, .ref xp, .int (iI vr), .int (iI va), .int (iI vt), .int (iI vm), .int (iI vd), .int (iI vx)]), (xw, aI g 72000 f2_13)] [0, 1] hr dX8_vertical_57 rfl rfl (nl rfl) (nl rfl) ⟨b2_12, f2_13, rfl, rfl, (by first | omega | rfl | assumption)⟩
      ·
        refine v_iconst fx dX8_vertical_28 rfl ?_
        refine v_goto fx 33 dX8_vertical_29 (by decide) ?_
        refine v_iload_n fx 0 dX8_vertical_33 rfl rfl ?_
        refine v_iconst fx dX8_vertical_34 rfl ?_
        refine v_icmp_ne fx 42 dX8_vertical_35 (by decide) rfl (by omega) (by omega) (fun h_15 => ?_) (fun h_15 => ?_)
        ·
          refine v_iload_n fx 0 dX8_vertical_42 rfl rfl ?_
          refine v_iconst fx dX8_vertical_43 rfl ?_
          refine v_icmp_ne fx 52 dX8_vertical_44 (by decide) rfl (by omega) (by omega) (fun h_16 => ?_) (fun h_16 => ?_)
          ·
            refine v_bipush fx dX8_vertical_52 (by decide +kernel) rfl ?_
            refine v_callV (As := [.int (iI 3), .int (iI 7)]) (rest := []) fx [0, 1] [] [(h0, ob 8 [.ref xa, .ref xb, .ref xc, .ref xd, .ref xe, .ref xf, .ref xg, .int (iI vc), .int (iI vk), .int (iI vw), .ref xm, .ref xv, .int (iI vg), .ref xw, .int (iI vb), .int (iI vi), .ref xq, .int (iI ve), .int (iI vf), .int (iI vu), .int (iI vl), .ref xr, .ref xh, .ref xo, .ref xp, .int (iI vr), .int (iI va), .int (iI vt), .int (iI vm), .int (iI vd), .int (iI vx)]), (xw, aI g 72000 f)] [] 2 0 (c_X8_number l g h0 xa xb xc xd xe xf xg xm xv xw xq xr xh xo xp vc vk vw vg vb vi ve vf vu vl vr va vt vm vd vx f (iI 3) 7 (by first | omega | decide | assumption) (by first | omega | decide | assumption)) dX8_vertical_54 k1106 k1108 k22 k57 k1109 ykX8_number rfl rfl rfl rfl rfl rfl rfl rfl (nl rfl) ⟨nl rfl, nl rfl⟩ ⟨(nl rfl), (nl rfl)⟩ rfl (fun v9 w9 hu => ?_)
            obtain ⟨b2_17, f2_18, rfl, rfl, u_19⟩ := hu
            refine v_is (wn := [(h0, ob 8 [.ref xa, .ref xb, .ref xc, .ref xd, .ref xe, .ref xf, .ref xg, .int (iI vc), .int (iI vk), .int (iI vw), .ref xm, .ref xv, .int (iI vg), .ref xw, .int (iI b2_17), .int (iI vi), .ref xq, .int (iI ve), .int (iI vf), .int (iI vu), .int (iI vl), .ref xr, .ref xh, .ref xo, .ref xp, .int (iI vr), .int (iI va), .int (iI vt), .int (iI vm), .int (iI vd), .int (iI vx)]), (xw, aI g 72000 f2_18)]) (cn := 0) (sn := 0) (sn2 := []) rfl rfl rfl rfl ?_
            exact v_vret fx [(h0, ob 8 [.ref xa, .ref xb, .ref xc, .ref xd, .ref xe, .ref xf, .ref xg, .int (iI vc), .int (iI vk), .int (iI vw), .ref xm, .ref xv, .int (iI vg), .ref xw, .int (iI b2_17), .int (iI vi), .ref xq, .int (iI ve), .int (iI vf), .int (iI vu), .int (iI vl), .ref xr, .ref xh, .ref xo, .ref xp, .int (iI vr), .int (iI va), .int (iI vt), .int (iI vm), .int (iI vd), .int (iI vx)]), (xw, aI g 72000 f2_18)] [0, 1] hr dX8_vertical_57 rfl rfl (nl rfl) (nl rfl) ⟨b2_17, f2_18, rfl, rfl, (by first | omega | rfl | assumption)⟩
          ·
            refine v_bipush fx dX8_vertical_47 (by decide +kernel) rfl ?_
            refine v_goto fx 54 dX8_vertical_49 (by decide) ?_
            refine v_callV (As := [.int (iI 3), .int (iI 6)]) (rest := []) fx [0, 1] [] [(h0, ob 8 [.ref xa, .ref xb, .ref xc, .ref xd, .ref xe, .ref xf, .ref xg, .int (iI vc), .int (iI vk), .int (iI vw), .ref xm, .ref xv, .int (iI vg), .ref xw, .int (iI vb), .int (iI vi), .ref xq, .int (iI ve), .int (iI vf), .int (iI vu), .int (iI vl), .ref xr, .ref xh, .ref xo, .ref xp, .int (iI vr), .int (iI va), .int (iI vt), .int (iI vm), .int (iI vd), .int (iI vx)]), (xw, aI g 72000 f)] [] 2 0 (c_X8_number l g h0 xa xb xc xd xe xf xg xm xv xw xq xr xh xo xp vc vk vw vg vb vi ve vf vu vl vr va vt vm vd vx f (iI 3) 6 (by first | omega | decide | assumption) (by first | omega | decide | assumption)) dX8_vertical_54 k1106 k1108 k22 k57 k1109 ykX8_number rfl rfl rfl rfl rfl rfl rfl rfl (nl rfl) ⟨nl rfl, nl rfl⟩ ⟨(nl rfl), (nl rfl)⟩ rfl (fun v9 w9 hu => ?_)
            obtain ⟨b2_20, f2_21, rfl, rfl, u_22⟩ := hu
            refine v_is (wn := [(h0, ob 8 [.ref xa, .ref xb, .ref xc, .ref xd, .ref xe, .ref xf, .ref xg, .int (iI vc), .int (iI vk), .int (iI vw), .ref xm, .ref xv, .int (iI vg), .ref xw, .int (iI b2_20), .int (iI vi), .ref xq, .int (iI ve), .int (iI vf), .int (iI vu), .int (iI vl), .ref xr, .ref xh, .ref xo, .ref xp, .int (iI vr), .int (iI va), .int (iI vt), .int (iI vm), .int (iI vd), .int (iI vx)]), (xw, aI g 72000 f2_21)]) (cn := 0) (sn := 0) (sn2 := []) rfl rfl rfl rfl ?_
            exact v_vret fx [(h0, ob 8 [.ref xa, .ref xb, .ref xc, .ref xd, .ref xe, .ref xf, .ref xg, .int (iI vc), .int (iI vk), .int (iI vw), .ref xm, .ref xv, .int (iI vg), .ref xw, .int (iI b2_20), .int (iI vi), .ref xq, .int (iI ve), .int (iI vf), .int (iI vu), .int (iI vl), .ref xr, .ref xh, .ref xo, .ref xp, .int (iI vr), .int (iI va), .int (iI vt), .int (iI vm), .int (iI vd), .int (iI vx)]), (xw, aI g 72000 f2_21)] [0, 1] hr dX8_vertical_57 rfl rfl (nl rfl) (nl rfl) ⟨b2_20, f2_21, rfl, rfl, (by first | omega | rfl | assumption)⟩
        ·
          refine v_iconst fx dX8_vertical_38 rfl ?_
          refine v_goto fx 54 dX8_vertical_39 (by decide) ?_
          refine v_callV (As := [.int (iI 3), .int (iI 3)]) (rest := []) fx [0, 1] [] [(h0, ob 8 [.ref xa, .ref xb, .ref xc, .ref xd, .ref xe, .ref xf, .ref xg, .int (iI vc), .int (iI vk), .int (iI vw), .ref xm, .ref xv, .int (iI vg), .ref xw, .int (iI vb), .int (iI vi), .ref xq, .int (iI ve), .int (iI vf), .int (iI vu), .int (iI vl), .ref xr, .ref xh, .ref xo, .ref xp, .int (iI vr), .int (iI va), .int (iI vt), .int (iI vm), .int (iI vd), .int (iI vx)]), (xw, aI g 72000 f)] [] 2 0 (c_X8_number l g h0 xa xb xc xd xe xf xg xm xv xw xq xr xh xo xp vc vk vw vg vb vi ve vf vu vl vr va vt vm vd vx f (iI 3) 3 (by first | omega | decide | assumption) (by first | omega | decide | assumption)) dX8_vertical_54 k1106 k1108 k22 k57 k1109 ykX8_number rfl rfl rfl rfl rfl rfl rfl rfl (nl rfl) ⟨nl rfl, nl rfl⟩ ⟨(nl rfl), (nl rfl)⟩ rfl (fun v9 w9 hu => ?_)
          obtain ⟨b2_23, f2_24, rfl, rfl, u_25⟩ := hu
          refine v_is (wn := [(h0, ob 8 [.ref xa, .ref xb, .ref xc, .ref xd, .ref xe, .ref xf, .ref xg, .int (iI vc), .int (iI vk), .int (iI vw), .ref xm, .ref xv, .int (iI vg), .ref xw, .int (iI b2_23), .int (iI vi), .ref xq, .int (iI ve), .int (iI vf), .int (iI vu), .int (iI vl), .ref xr, .ref xh, .ref xo, .ref xp, .int (iI vr), .int (iI va), .int (iI vt), .int (iI vm), .int (iI vd), .int (iI vx)]), (xw, aI g 72000 f2_24)]) (cn := 0) (sn := 0) (sn2 := []) rfl rfl rfl rfl ?_
          exact v_vret fx [(h0, ob 8 [.ref xa, .ref xb, .ref xc, .ref xd, .ref xe, .ref xf, .ref xg, .int (iI vc), .int (iI vk), .int (iI vw), .ref xm, .ref xv, .int (iI vg), .ref xw, .int (iI b2_23), .int (iI vi), .ref xq, .int (iI ve), .int (iI vf), .int (iI vu), .int (iI vl), .ref xr, .ref xh, .ref xo, .ref xp, .int (iI vr), .int (iI va), .int (iI vt), .int (iI vm), .int (iI vd), .int (iI vx)]), (xw, aI g 72000 f2_24)] [0, 1] hr dX8_vertical_57 rfl rfl (nl rfl) (nl rfl) ⟨b2_23, f2_24, rfl, rfl, (by first | omega | rfl | assumption)⟩
    ·
      refine v_iload_n fx 1 dX8_vertical_16 rfl rfl ?_
      refine v_ineg fx (-x) dX8_vertical_17 rfl rfl ?_
      refine v_goto fx 22 dX8_vertical_18 (by decide) ?_
      refine v_istore_n fx [(2, .int (iI (-x))), (0, .ref h0), (1, .int (iI x))] dX8_vertical_22 (by decide) rfl rfl ?_
      refine v_aload_n fx 1 dX8_vertical_23 rfl rfl ?_
      refine v_iload_n fx 2 dX8_vertical_24 rfl rfl ?_
      refine v_if_le fx 32 dX8_vertical_25 (by decide) rfl (by omega) (fun h_26 => ?_) (fun h_26 => ?_)
      ·
        refine v_iconst fx dX8_vertical_32 rfl ?_
        refine v_iload_n fx 0 dX8_vertical_33 rfl rfl ?_
        refine v_iconst fx dX8_vertical_34 rfl ?_
        refine v_icmp_ne fx 42 dX8_vertical_35 (by decide) rfl (by omega) (by omega) (fun h_27 => ?_) (fun h_27 => ?_)
        ·
          refine v_iload_n fx 0 dX8_vertical_42 rfl rfl ?_
          refine v_iconst fx dX8_vertical_43 rfl ?_
          refine v_icmp_ne fx 52 dX8_vertical_44 (by decide) rfl (by omega) (by omega) (fun h_28 => ?_) (fun h_28 => ?_)
          ·
            refine v_bipush fx dX8_vertical_52 (by decide +kernel) rfl ?_
            refine v_callV (As := [.int (iI 2), .int (iI 7)]) (rest := []) fx [0, 1] [] [(h0, ob 8 [.ref xa, .ref xb, .ref xc, .ref xd, .ref xe, .ref xf, .ref xg, .int (iI vc), .int (iI vk), .int (iI vw), .ref xm, .ref xv, .int (iI vg), .ref xw, .int (iI vb), .int (iI vi), .ref xq, .int (iI ve), .int (iI vf), .int (iI vu), .int (iI vl), .ref xr, .ref xh, .ref xo, .ref xp, .int (iI vr), .int (iI va), .int (iI vt), .int (iI vm), .int (iI vd), .int (iI vx)]), (xw, aI g 72000 f)] [] 2 0 (c_X8_number l g h0 xa xb xc xd xe xf xg xm xv xw xq xr xh xo xp vc vk vw vg vb vi ve vf vu vl vr va vt vm vd vx f (iI 2) 7 (by first | omega | decide | assumption) (by first | omega | decide | assumption)) dX8_vertical_54 k1106 k1108 k22 k57 k1109 ykX8_number rfl rfl rfl rfl rfl rfl rfl rfl (nl rfl) ⟨nl rfl, nl rfl⟩ ⟨(nl rfl), (nl rfl)⟩ rfl (fun v9 w9 hu => ?_)
            obtain ⟨b2_29, f2_30, rfl, rfl, u_31⟩ := hu
            refine v_is (wn := [(h0, ob 8 [.ref xa, .ref xb, .ref xc, .ref xd, .ref xe, .ref xf, .ref xg, .int (iI vc), .int (iI vk), .int (iI vw), .ref xm, .ref xv, .int (iI vg), .ref xw, .int (iI b2_29), .int (iI vi), .ref xq, .int (iI ve), .int (iI vf), .int (iI vu), .int (iI vl), .ref xr, .ref xh, .ref xo, .ref xp, .int (iI vr), .int (iI va), .int (iI vt), .int (iI vm), .int (iI vd), .int (iI vx)]), (xw, aI g 72000 f2_30)]) (cn := 0) (sn := 0) (sn2 := []) rfl rfl rfl rfl ?_
            exact v_vret fx [(h0, ob 8 [.ref xa, .ref xb, .ref xc, .ref xd, .ref xe, .ref xf, .ref xg, .int (iI vc), .int (iI vk), .int (iI vw), .ref xm, .ref xv, .int (iI vg), .ref xw, .int (iI b2_29), .int (iI vi), .ref xq, .int (iI ve), .int (iI vf), .int (iI vu), .int (iI vl), .ref xr, .ref xh, .ref xo, .ref xp, .int (iI vr), .int (iI va), .int (iI vt), .int (iI vm), .int (iI vd), .int (iI vx)]), (xw, aI g 72000 f2_30)] [0, 1] hr dX8_vertical_57 rfl rfl (nl rfl) (nl rfl) ⟨b2_29, f2_30, rfl, rfl, (by first | omega | rfl | assumption)⟩
          ·
            refine v_bipush fx dX8_vertical_47 (by decide +kernel) rfl ?_
            refine v_goto fx 54 dX8_vertical_49 (by decide) ?_
            refine v_callV (As := [.int (iI 2), .int (iI 6)]) (rest := []) fx [0, 1] [] [(h0, ob 8 [.ref xa, .ref xb, .ref xc, .ref xd, .ref xe, .ref xf, .ref xg, .int (iI vc), .int (iI vk), .int (iI vw), .ref xm, .ref xv, .int (iI vg), .ref xw, .int (iI vb), .int (iI vi), .ref xq, .int (iI ve), .int (iI vf), .int (iI vu), .int (iI vl), .ref xr, .ref xh, .ref xo, .ref xp, .int (iI vr), .int (iI va), .int (iI vt), .int (iI vm), .int (iI vd), .int (iI vx)]), (xw, aI g 72000 f)] [] 2 0 (c_X8_number l g h0 xa xb xc xd xe xf xg xm xv xw xq xr xh xo xp vc vk vw vg vb vi ve vf vu vl vr va vt vm vd vx f (iI 2) 6 (by first | omega | decide | assumption) (by first | omega | decide | assumption)) dX8_vertical_54 k1106 k1108 k22 k57 k1109 ykX8_number rfl rfl rfl rfl rfl rfl rfl rfl (nl rfl) ⟨nl rfl, nl rfl⟩ ⟨(nl rfl), (nl rfl)⟩ rfl (fun v9 w9 hu => ?_)
            obtain ⟨b2_32, f2_33, rfl, rfl, u_34⟩ := hu
            refine v_is (wn := [(h0, ob 8 [.ref xa, .ref xb, .ref xc, .ref xd, .ref xe, .ref xf, .ref xg, .int (iI vc), .int (iI vk), .int (iI vw), .ref xm, .ref xv, .int (iI vg), .ref xw, .int (iI b2_32), .int (iI vi), .ref xq, .int (iI ve), .int (iI vf), .int (iI vu), .int (iI vl), .ref xr, .ref xh, .ref xo, .ref xp, .int (iI vr), .int (iI va), .int (iI vt), .int (iI vm), .int (iI vd), .int (iI vx)]), (xw, aI g 72000 f2_33)]) (cn := 0) (sn := 0) (sn2 := []) rfl rfl rfl rfl ?_
            exact v_vret fx [(h0, ob 8 [.ref xa, .ref xb, .ref xc, .ref xd, .ref xe, .ref xf, .ref xg, .int (iI vc), .int (iI vk), .int (iI vw), .ref xm, .ref xv, .int (iI vg), .ref xw, .int (iI b2_32), .int (iI vi), .ref xq, .int (iI ve), .int (iI vf), .int (iI vu), .int (iI vl), .ref xr, .ref xh, .ref xo, .ref xp, .int (iI vr), .int (iI va), .int (iI vt), .int (iI vm), .int (iI vd), .int (iI vx)]), (xw, aI g 72000 f2_33)] [0, 1] hr dX8_vertical_57 rfl rfl (nl rfl) (nl rfl) ⟨b2_32, f2_33, rfl, rfl, (by first | omega | rfl | assumption)⟩
        ·
          refine v_iconst fx dX8_vertical_38 rfl ?_
          refine v_goto fx 54 dX8_vertical_39 (by decide) ?_
          refine v_callV (As := [.int (iI 2), .int (iI 3)]) (rest := []) fx [0, 1] [] [(h0, ob 8 [.ref xa, .ref xb, .ref xc, .ref xd, .ref xe, .ref xf, .ref xg, .int (iI vc), .int (iI vk), .int (iI vw), .ref xm, .ref xv, .int (iI vg), .ref xw, .int (iI vb), .int (iI vi), .ref xq, .int (iI ve), .int (iI vf), .int (iI vu), .int (iI vl), .ref xr, .ref xh, .ref xo, .ref xp, .int (iI vr), .int (iI va), .int (iI vt), .int (iI vm), .int (iI vd), .int (iI vx)]), (xw, aI g 72000 f)] [] 2 0 (c_X8_number l g h0 xa xb xc xd xe xf xg xm xv xw xq xr xh xo xp vc vk vw vg vb vi ve vf vu vl vr va vt vm vd vx f (iI 2) 3 (by first | omega | decide | assumption) (by first | omega | decide | assumption)) dX8_vertical_54 k1106 k1108 k22 k57 k1109 ykX8_number rfl rfl rfl rfl rfl rfl rfl rfl (nl rfl) ⟨nl rfl, nl rfl⟩ ⟨(nl rfl), (nl rfl)⟩ rfl (fun v9 w9 hu => ?_)
          obtain ⟨b2_35, f2_36, rfl, rfl, u_37⟩ := hu
          refine v_is (wn := [(h0, ob 8 [.ref xa, .ref xb, .ref xc, .ref xd, .ref xe, .ref xf, .ref xg, .int (iI vc), .int (iI vk), .int (iI vw), .ref xm, .ref xv, .int (iI vg), .ref xw, .int (iI b2_35), .int (iI vi), .ref xq, .int (iI ve), .int (iI vf), .int (iI vu), .int (iI vl), .ref xr, .ref xh, .ref xo, .ref xp, .int (iI vr), .int (iI va), .int (iI vt), .int (iI vm), .int (iI vd), .int (iI vx)]), (xw, aI g 72000 f2_36)]) (cn := 0) (sn := 0) (sn2 := []) rfl rfl rfl rfl ?_
          exact v_vret fx [(h0, ob 8 [.ref xa, .ref xb, .ref xc, .ref xd, .ref xe, .ref xf, .ref xg, .int (iI vc), .int (iI vk), .int (iI vw), .ref xm, .ref xv, .int (iI vg), .ref xw, .int (iI b2_35), .int (iI vi), .ref xq, .int (iI ve), .int (iI vf), .int (iI vu), .int (iI vl), .ref xr, .ref xh, .ref xo, .ref xp, .int (iI vr), .int (iI va), .int (iI vt), .int (iI vm), .int (iI vd), .int (iI vx)]), (xw, aI g 72000 f2_36)] [0, 1] hr dX8_vertical_57 rfl rfl (nl rfl) (nl rfl) ⟨b2_35, f2_36, rfl, rfl, (by first | omega | rfl | assumption)⟩
      ·
        refine v_iconst fx dX8_vertical_28 rfl ?_
        refine v_goto fx 33 dX8_vertical_29 (by decide) ?_
        refine v_iload_n fx 0 dX8_vertical_33 rfl rfl ?_
        refine v_iconst fx dX8_vertical_34 rfl ?_
        refine v_icmp_ne fx 42 dX8_vertical_35 (by decide) rfl (by omega) (by omega) (fun h_38 => ?_) (fun h_38 => ?_)
        ·
          refine v_iload_n fx 0 dX8_vertical_42 rfl rfl ?_
          refine v_iconst fx dX8_vertical_43 rfl ?_
          refine v_icmp_ne fx 52 dX8_vertical_44 (by decide) rfl (by omega) (by omega) (fun h_39 => ?_) (fun h_39 => ?_)
          ·
            refine v_bipush fx dX8_vertical_52 (by decide +kernel) rfl ?_
            refine v_callV (As := [.int (iI 3), .int (iI 7)]) (rest := []) fx [0, 1] [] [(h0, ob 8 [.ref xa, .ref xb, .ref xc, .ref xd, .ref xe, .ref xf, .ref xg, .int (iI vc), .int (iI vk), .int (iI vw), .ref xm, .ref xv, .int (iI vg), .ref xw, .int (iI vb), .int (iI vi), .ref xq, .int (iI ve), .int (iI vf), .int (iI vu), .int (iI vl), .ref xr, .ref xh, .ref xo, .ref xp, .int (iI vr), .int (iI va), .int (iI vt), .int (iI vm), .int (iI vd), .int (iI vx)]), (xw, aI g 72000 f)] [] 2 0 (c_X8_number l g h0 xa xb xc xd xe xf xg xm xv xw xq xr xh xo xp vc vk vw vg vb vi ve vf vu vl vr va vt vm vd vx f (iI 3) 7 (by first | omega | decide | assumption) (by first | omega | decide | assumption)) dX8_vertical_54 k1106 k1108 k22 k57 k1109 ykX8_number rfl rfl rfl rfl rfl rfl rfl rfl (nl rfl) ⟨nl rfl, nl rfl⟩ ⟨(nl rfl), (nl rfl)⟩ rfl (fun v9 w9 hu => ?_)
            obtain ⟨b2_40, f2_41, rfl, rfl, u_42⟩ := hu
            refine v_is (wn := [(h0, ob 8 [.ref xa, .ref xb, .ref xc, .ref xd, .ref xe, .ref xf, .ref xg, .int (iI vc), .int (iI vk), .int (iI vw), .ref xm, .ref xv, .int (iI vg), .ref xw, .int (iI b2_40), .int (iI vi), .ref xq, .int (iI ve), .int (iI vf), .int (iI vu), .int (iI vl), .ref xr, .ref xh, .ref xo, .ref xp, .int (iI vr), .int (iI va), .int (iI vt), .int (iI vm), .int (iI vd), .int (iI vx)]), (xw, aI g 72000 f2_41)]) (cn := 0) (sn := 0) (sn2 := []) rfl rfl rfl rfl ?_
            exact v_vret fx [(h0, ob 8 [.ref xa, .ref xb, .ref xc, .ref xd, .ref xe, .ref xf, .ref xg, .int (iI vc), .int (iI vk), .int (iI vw), .ref xm, .ref xv, .int (iI vg), .ref xw, .int (iI b2_40), .int (iI vi), .ref xq, .int (iI ve), .int (iI vf), .int (iI vu), .int (iI vl), .ref xr, .ref xh, .ref xo, .ref xp, .int (iI vr), .int (iI va), .int (iI vt), .int (iI vm), .int (iI vd), .int (iI vx)]), (xw, aI g 72000 f2_41)] [0, 1] hr dX8_vertical_57 rfl rfl (nl rfl) (nl rfl) ⟨b2_40, f2_41, rfl, rfl, (by first | omega | rfl | assumption)⟩
          ·
            refine v_bipush fx dX8_vertical_47 (by decide +kernel) rfl ?_
            refine v_goto fx 54 dX8_vertical_49 (by decide) ?_
            refine v_callV (As := [.int (iI 3), .int (iI 6)]) (rest := []) fx [0, 1] [] [(h0, ob 8 [.ref xa, .ref xb, .ref xc, .ref xd, .ref xe, .ref xf, .ref xg, .int (iI vc), .int (iI vk), .int (iI vw), .ref xm, .ref xv, .int (iI vg), .ref xw, .int (iI vb), .int (iI vi), .ref xq, .int (iI ve), .int (iI vf), .int (iI vu), .int (iI vl), .ref xr, .ref xh, .ref xo, .ref xp, .int (iI vr), .int (iI va), .int (iI vt), .int (iI vm), .int (iI vd), .int (iI vx)]), (xw, aI g 72000 f)] [] 2 0 (c_X8_number l g h0 xa xb xc xd xe xf xg xm xv xw xq xr xh xo xp vc vk vw vg vb vi ve vf vu vl vr va vt vm vd vx f (iI 3) 6 (by first | omega | decide | assumption) (by first | omega | decide | assumption)) dX8_vertical_54 k1106 k1108 k22 k57 k1109 ykX8_number rfl rfl rfl rfl rfl rfl rfl rfl (nl rfl) ⟨nl rfl, nl rfl⟩ ⟨(nl rfl), (nl rfl)⟩ rfl (fun v9 w9 hu => ?_)
            obtain ⟨b2_43, f2_44, rfl, rfl, u_45⟩ := hu
            refine v_is (wn := [(h0, ob 8 [.ref xa, .ref xb, .ref xc, .ref xd, .ref xe, .ref xf, .ref xg, .int (iI vc), .int (iI vk), .int (iI vw), .ref xm, .ref xv, .int (iI vg), .ref xw, .int (iI b2_43), .int (iI vi), .ref xq, .int (iI ve), .int (iI vf), .int (iI vu), .int (iI vl), .ref xr, .ref xh, .ref xo, .ref xp, .int (iI vr), .int (iI va), .int (iI vt), .int (iI vm), .int (iI vd), .int (iI vx)]), (xw, aI g 72000 f2_44)]) (cn := 0) (sn := 0) (sn2 := []) rfl rfl rfl rfl ?_
            exact v_vret fx [(h0, ob 8 [.ref xa, .ref xb, .ref xc, .ref xd, .ref xe, .ref xf, .ref xg, .int (iI vc), .int (iI vk), .int (iI vw), .ref xm, .ref xv, .int (iI vg), .ref xw, .int (iI b2_43), .int (iI vi), .ref xq, .int (iI ve), .int (iI vf), .int (iI vu), .int (iI vl), .ref xr, .ref xh, .ref xo, .ref xp, .int (iI vr), .int (iI va), .int (iI vt), .int (iI vm), .int (iI vd), .int (iI vx)]), (xw, aI g 72000 f2_44)] [0, 1] hr dX8_vertical_57 rfl rfl (nl rfl) (nl rfl) ⟨b2_43, f2_44, rfl, rfl, (by first | omega | rfl | assumption)⟩
        ·
          refine v_iconst fx dX8_vertical_38 rfl ?_
          refine v_goto fx 54 dX8_vertical_39 (by decide) ?_
          refine v_callV (As := [.int (iI 3), .int (iI 3)]) (rest := []) fx [0, 1] [] [(h0, ob 8 [.ref xa, .ref xb, .ref xc, .ref xd, .ref xe, .ref xf, .ref xg, .int (iI vc), .int (iI vk), .int (iI vw), .ref xm, .ref xv, .int (iI vg), .ref xw, .int (iI vb), .int (iI vi), .ref xq, .int (iI ve), .int (iI vf), .int (iI vu), .int (iI vl), .ref xr, .ref xh, .ref xo, .ref xp, .int (iI vr), .int (iI va), .int (iI vt), .int (iI vm), .int (iI vd), .int (iI vx)]), (xw, aI g 72000 f)] [] 2 0 (c_X8_number l g h0 xa xb xc xd xe xf xg xm xv xw xq xr xh xo xp vc vk vw vg vb vi ve vf vu vl vr va vt vm vd vx f (iI 3) 3 (by first | omega | decide | assumption) (by first | omega | decide | assumption)) dX8_vertical_54 k1106 k1108 k22 k57 k1109 ykX8_number rfl rfl rfl rfl rfl rfl rfl rfl (nl rfl) ⟨nl rfl, nl rfl⟩ ⟨(nl rfl), (nl rfl)⟩ rfl (fun v9 w9 hu => ?_)
          obtain ⟨b2_46, f2_47, rfl, rfl, u_48⟩ := hu
          refine v_is (wn := [(h0, ob 8 [.ref xa, .ref xb, .ref xc, .ref xd, .ref xe, .ref xf, .ref xg, .int (iI vc), .int (iI vk), .int (iI vw), .ref xm, .ref xv, .int (iI vg), .ref xw, .int (iI b2_46), .int (iI vi), .ref xq, .int (iI ve), .int (iI vf), .int (iI vu), .int (iI vl), .ref xr, .ref xh, .ref xo, .ref xp, .int (iI vr), .int (iI va), .int (iI vt), .int (iI vm), .int (iI vd), .int (iI vx)]), (xw, aI g 72000 f2_47)]) (cn := 0) (sn := 0) (sn2 := []) rfl rfl rfl rfl ?_
          exact v_vret fx [(h0, ob 8 [.ref xa, .ref xb, .ref xc, .ref xd, .ref xe, .ref xf, .ref xg, .int (iI vc), .int (iI vk), .int (iI vw), .ref xm, .ref xv, .int (iI vg), .ref xw, .int (iI b2_46), .int (iI vi), .ref xq, .int (iI ve), .int (iI vf), .int (iI vu), .int (iI vl), .ref xr, .ref xh, .ref xo, .ref xp, .int (iI vr), .int (iI va), .int (iI vt), .int (iI vm), .int (iI vd), .int (iI vx)]), (xw, aI g 72000 f2_47)] [0, 1] hr dX8_vertical_57 rfl rfl (nl rfl) (nl rfl) ⟨b2_46, f2_47, rfl, rfl, (by first | omega | rfl | assumption)⟩
  ·
    refine v_aload_n fx 0 dX8_vertical_4 rfl rfl ?_
    refine v_iconst fx dX8_vertical_5 rfl ?_
    refine v_callV (As := [.int (iI 1)]) (rest := []) fx [0, 1] [] [(h0, ob 8 [.ref xa, .ref xb, .ref xc, .ref xd, .ref xe, .ref xf, .ref xg, .int (iI vc), .int (iI vk), .int (iI vw), .ref xm, .ref xv, .int (iI vg), .ref xw, .int (iI vb), .int (iI vi), .ref xq, .int (iI ve), .int (iI vf), .int (iI vu), .int (iI vl), .ref xr, .ref xh, .ref xo, .ref xp, .int (iI vr), .int (iI va), .int (iI vt), .int (iI vm), .int (iI vd), .int (iI vx)]), (xw, aI g 72000 f)] [] 1 0 (c_X8_bit l g h0 xa xb xc xd xe xf xg xm xv xw xq xr xh xo xp vc vk vw vg vb vi ve vf vu vl vr va vt vm vd vx f (iI 1) (by first | omega | decide | assumption) (by first | omega | decide | assumption)) dX8_vertical_6 k1110 k1112 k23 k57 k1113 ykX8_bit rfl rfl rfl rfl rfl rfl rfl rfl (nl rfl) ⟨nl rfl, nl rfl⟩ ⟨(nl rfl), (nl rfl)⟩ rfl (fun v9 w9 hu => ?_)
    obtain ⟨f2_49, rfl, rfl⟩ := hu
    refine v_is (wn := [(h0, ob 8 [.ref xa, .ref xb, .ref xc, .ref xd, .ref xe, .ref xf, .ref xg, .int (iI vc), .int (iI vk), .int (iI vw), .ref xm, .ref xv, .int (iI vg), .ref xw, .int (iI (vb + 1)), .int (iI vi), .ref xq, .int (iI ve), .int (iI vf), .int (iI vu), .int (iI vl), .ref xr, .ref xh, .ref xo, .ref xp, .int (iI vr), .int (iI va), .int (iI vt), .int (iI vm), .int (iI vd), .int (iI vx)]), (xw, aI g 72000 f2_49)]) (cn := 0) (sn := 0) (sn2 := []) rfl rfl rfl rfl ?_
    refine v_goto fx 57 dX8_vertical_9 (by decide) ?_
    exact v_vret fx [(h0, ob 8 [.ref xa, .ref xb, .ref xc, .ref xd, .ref xe, .ref xf, .ref xg, .int (iI vc), .int (iI vk), .int (iI vw), .ref xm, .ref xv, .int (iI vg), .ref xw, .int (iI (vb + 1)), .int (iI vi), .ref xq, .int (iI ve), .int (iI vf), .int (iI vu), .int (iI vl), .ref xr, .ref xh, .ref xo, .ref xp, .int (iI vr), .int (iI va), .int (iI vt), .int (iI vm), .int (iI vd), .int (iI vx)]), (xw, aI g 72000 f2_49)] [0, 1] hr dX8_vertical_57 rfl rfl (nl rfl) (nl rfl) ⟨(vb + 1), f2_49, rfl, rfl, (by first | omega | rfl | assumption)⟩
theorem dX8_oneDimension_0 : decode cX8_oneDimension 0 = .ok (.iconst 0, 1) := by decide +kernel
theorem dX8_oneDimension_1 : decode cX8_oneDimension 1 = .ok (.istore_n 2, 1) := by decide +kernel
theorem dX8_oneDimension_2 : decode cX8_oneDimension 2 = .ok (.iconst 0, 1) := by decide +kernel
theorem dX8_oneDimension_3 : decode cX8_oneDimension 3 = .ok (.istore_n 3, 1) := by decide +kernel
theorem dX8_oneDimension_4 : decode cX8_oneDimension 4 = .ok (.iload_n 2, 1) := by decide +kernel
theorem dX8_oneDimension_5 : decode cX8_oneDimension 5 = .ok (.aload_n 0, 1) := by decide +kernel
theorem dX8_oneDimension_6 : decode cX8_oneDimension 6 = .ok (.getfield 63, 3) := by decide +kernel
theorem dX8_oneDimension_9 : decode cX8_oneDimension 9 = .ok (.if_icmp .ge 59, 3) := by decide +kernel
theorem dX8_oneDimension_12 : decode cX8_oneDimension 12 = .ok (.iload_n 2, 1) := by decide +kernel
theorem dX8_oneDimension_13 : decode cX8_oneDimension 13 = .ok (.istore 4, 2) := by decide +kernel
theorem dX8_oneDimension_15 : decode cX8_oneDimension 15 = .ok (.iload 4, 2) := by decide +kernel
theorem dX8_oneDimension_17 : decode cX8_oneDimension 17 = .ok (.aload_n 0, 1) := by decide +kernel
theorem dX8_oneDimension_18 : decode cX8_oneDimension 18 = .ok (.getfield 63, 3) := by decide +kernel
theorem dX8_oneDimension_21 : decode cX8_oneDimension 21 = .ok (.if_icmp .ge 22, 3) := by decide +kernel
theorem dX8_oneDimension_24 : decode cX8_oneDimension 24 = .ok (.aload_n 0, 1) := by decide +kernel
theorem dX8_oneDimension_25 : decode cX8_oneDimension 25 = .ok (.getfield 36, 3) := by decide +kernel
theorem dX8_oneDimension_28 : decode cX8_oneDimension 28 = .ok (.iload_n 1, 1) := by decide +kernel
theorem dX8_oneDimension_29 : decode cX8_oneDimension 29 = .ok (.iload 4, 2) := by decide +kernel
theorem dX8_oneDimension_31 : decode cX8_oneDimension 31 = .ok (.iadd, 1) := by decide +kernel
theorem dX8_oneDimension_32 : decode cX8_oneDimension 32 = .ok (.baload, 1) := by decide +kernel
theorem dX8_oneDimension_33 : decode cX8_oneDimension 33 = .ok (.iload_n 3, 1) := by decide +kernel
theorem dX8_oneDimension_34 : decode cX8_oneDimension 34 = .ok (.if_icmp .ne 9, 3) := by decide +kernel
theorem dX8_oneDimension_37 : decode cX8_oneDimension 37 = .ok (.iinc 4 1, 3) := by decide +kernel
theorem dX8_oneDimension_40 : decode cX8_oneDimension 40 = .ok (.goto (-25), 3) := by decide +kernel
theorem dX8_oneDimension_43 : decode cX8_oneDimension 43 = .ok (.aload_n 0, 1) := by decide +kernel
theorem dX8_oneDimension_44 : decode cX8_oneDimension 44 = .ok (.iload 4, 2) := by decide +kernel
theorem dX8_oneDimension_46 : decode cX8_oneDimension 46 = .ok (.iload_n 2, 1) := by decide +kernel
theorem dX8_oneDimension_47 : decode cX8_oneDimension 47 = .ok (.isub, 1) := by decide +kernel
theorem dX8_oneDimension_48 : decode cX8_oneDimension 48 = .ok (.iload_n 3, 1) := by decide +kernel
theorem dX8_oneDimension_49 : decode cX8_oneDimension 49 = .ok (.invokevirtual 90, 3) := by decide +kernel
theorem dX8_oneDimension_52 : decode cX8_oneDimension 52 = .ok (.iload 4, 2) := by decide +kernel
theorem dX8_oneDimension_54 : decode cX8_oneDimension 54 = .ok (.istore_n 2, 1) := by decide +kernel
theorem dX8_oneDimension_55 : decode cX8_oneDimension 55 = .ok (.iload_n 3, 1) := by decide +kernel
theorem dX8_oneDimension_56 : decode cX8_oneDimension 56 = .ok (.ifCond .ne 7, 3) := by decide +kernel
theorem dX8_oneDimension_59 : decode cX8_oneDimension 59 = .ok (.iconst 1, 1) := by decide +kernel
theorem dX8_oneDimension_60 : decode cX8_oneDimension 60 = .ok (.goto 4, 3) := by decide +kernel
theorem dX8_oneDimension_63 : decode cX8_oneDimension 63 = .ok (.iconst 0, 1) := by decide +kernel
theorem dX8_oneDimension_64 : decode cX8_oneDimension 64 = .ok (.istore_n 3, 1) := by decide +kernel
theorem dX8_oneDimension_65 : decode cX8_oneDimension 65 = .ok (.goto (-61), 3) := by decide +kernel
theorem dX8_oneDimension_68 : decode cX8_oneDimension 68 = .ok (.return_, 1) := by decide +kernel
abbrev po_c_X8_oneDimension (g : GG) (h0 : Nat) (xa : Nat) (xb : Nat) (xc : Nat) (xd : Nat) (xe : Nat) (xf : Nat) (xg : Nat) (xm : Nat) (xv : Nat) (xw : Nat) (xq : Nat) (xr : Nat) (xh : Nat) (xo : Nat) (xp : Nat) (vc : Int) (vk : Int) (vw : Int) (vg : Int) (vb : Int) (vi : Int) (ve : Int) (vf : Int) (vu : Int) (vl : Int) (vr : Int) (va : Int) (vt : Int) (vm : Int) (vd : Int) (vx : Int) (f : Nat → Int32) (fg : Nat → Int32) (ba : Int) : Option Value → va_W → Prop := fun v8 w8 => ∃ b2 : Int, ∃ f2 : Nat → Int32, v8 = none ∧ w8 = [(h0, ob 8 [.ref xa, .ref xb, .ref xc, .ref xd, .ref xe, .ref xf, .ref xg, .int (iI vc), .int (iI vk), .int (iI vw), .ref xm, .ref xv, .int (iI vg), .ref xw, .int (iI b2), .int (iI vi), .ref xq, .int (iI ve), .int (iI vf), .int (iI vu), .int (iI vl), .ref xr, .ref xh, .ref xo, .ref xp, .int (iI vr), .int (iI va), .int (iI vt), .int (iI vm), .int (iI vd), .int (iI vx)]), (xw, aI g 72000 f2), (xv, aZ g 72000 fg), (xa, aI g 64 (lfT mW 64)), (xb, aI g 64 (lfT mB 64)), (xc, aI g 27 (lfT mWM 27)), (xd, aI g 27 (lfT mBM 27)), (xe, aI g 13 (lfT mBO 13))] ∧ (vb ≤ b2 ∧ b2 ≤ vb + 7 * vw + 30)
set_option maxHeartbeats 4000000 in
set_option maxRecDepth 100000 in
theorem c_X8_oneDimension (l : Launch) (g : GG) (h0 : Nat) (xa : Nat) (xb : Nat) (xc : Nat) (xd : Nat) (xe : Nat) (xf : Nat) (xg : Nat) (xm : Nat) (xv : Nat) (xw : Nat) (xq : Nat) (xr : Nat) (xh : Nat) (xo : Nat) (xp : Nat) (vc : Int) (vk : Int) (vw : Int) (vg : Int) (vb : Int) (vi : Int) (ve : Int) (vf : Int) (vu : Int) (vl : Int) (vr : Int) (va : Int) (vt : Int) (vm : Int) (vd : Int) (vx : Int) (f : Nat → Int32) (fg : Nat → Int32) (ba : Int) (hp0 : 0 ≤ vb ∧ vb + 7 * vw + 80 ≤ 576000) (hp1 : 0 ≤ vl ∧ vl ≤ 1) (hp2 : 1 ≤ vw ∧ vw ≤ 3000) (hp3 : 0 ≤ ba ∧ ba + 3000 ≤ 72000) (hp4 : bZ fg) : Ct l g yX8_oneDimension (wM yX8_oneDimension cX8_oneDimension 5 none) (rmD 4 0 0) [.ref h0, .int (iI ba)] [(h0, ob 8 [.ref xa, .ref xb, .ref xc, .ref xd, .ref xe, .ref xf, .ref xg, .int (iI vc), .int (iI vk), .int (iI vw), .ref xm, .ref xv, .int (iI vg), .ref xw, .int (iI vb), .int (iI vi), .ref xq, .int (iI ve), .int (iI vf), .int (iI vu), .int (iI vl), .ref xr, .ref xh, .ref xo, .ref xp, .int (iI vr), .int (iI va), .int (iI vt), .int (iI vm), .int (iI vd), .int (iI vx)]), (xw, aI g 72000 f), (xv, aZ g 72000 fg), (xa, aI g 64 (lfT mW 64)), (xb, aI g 64 (lfT mB 64)), (xc, aI g 27 (lfT mWM 27)), (xd, aI g 27 (lfT mBM 27)), (xe, aI g 13 (lfT mBO 13))] (po_c_X8_oneDimension g h0 xa xb xc xd xe xf xg xm xv xw xq xr xh xo xp vc vk vw vg vb vi ve vf vu vl vr va vt vm vd vx f fg ba) := by
  refine Ct_of (by decide +kernel) (Nat.le_of_ble_eq_true rfl) ?_
  intro p9 e9 s9 m9 ag9 bl9 mt9 c9 A9 fx hr hnm
  refine v_iconst fx dX8_oneDimension_0 rfl ?_
  refine v_istore_n fx [(2, .int (iI 0)), (0, .ref h0), (1, .int (iI ba))] dX8_oneDimension_1 (by decide) rfl rfl ?_
  refine v_iconst fx dX8_oneDimension_2 rfl ?_
  refine v_istore_n fx [(3, .int (iI 0)), (2, .int (iI 0)), (0, .ref h0), (1, .int (iI ba))] dX8_oneDimension_3 (by decide) rfl rfl ?_
  have L4 : ∀ (N : Nat) (x : Int) (bk : Int) (fi : Int) (b1 : Int) (f1 : Nat → Int32), (0 ≤ x ∧ x ≤ vw) → (0 ≤ bk ∧ bk ≤ 1 ∧ 0 ≤ fi ∧ fi ≤ 1) → (fi = 0 → x < vw → fg (ba + x).toNat = iI bk) → (vb ≤ b1 ∧ b1 + 10 * fi ≤ vb + 7 * x + 10) → ((vw - x + fi).toNat) < N → V p9 l e9 (rmD 4 0 0) s9 m9 ag9 bl9 mt9 c9 5 g A9 (MQ bl9 (cQ g (po_c_X8_oneDimension g h0 xa xb xc xd xe xf xg xm xv xw xq xr xh xo xp vc vk vw vg vb vi ve vf vu vl vr va vt vm vd vx f fg ba) A9) ag9 s9 0 0 A9) [(h0, ob 8 [.ref xa, .ref xb, .ref xc, .ref xd, .ref xe, .ref xf, .ref xg, .int (iI vc), .int (iI vk), .int (iI vw), .ref xm, .ref xv, .int (iI vg), .ref xw, .int (iI b1), .int (iI vi), .ref xq, .int (iI ve), .int (iI vf), .int (iI vu), .int (iI vl), .ref xr, .ref xh, .ref xo, .ref xp, .int (iI vr), .int (iI va), .int (iI vt), .int (iI vm), .int (iI vd), .int (iI vx)]), (xw, aI g 72000 f1), (xv, aZ g 72000 fg), (xa, aI g 64 (lfT mW 64)), (xb, aI g 64 (lfT mB 64)), (xc, aI g 27 (lfT mWM 27)), (xd, aI g 27 (lfT mBM 27)), (xe, aI g 13 (lfT mBO 13))] 0 0 [(0, .ref h0), (1, .int (iI ba)), (2, .int (iI x)), (3, .int (iI bk))] 4 [] := by
    intro N
    induction N with
    | zero => intro x bk fi b1 f1 hi4_0 hi4_1 hi4_2 hi4_3 hN; exact absurd hN (Nat.not_lt_zero _)
    | succ N ihL4 =>
      intro x bk fi b1 f1 hi4_0 hi4_1 hi4_2 hi4_3 hN4
      refine v_iload_n fx 2 dX8_oneDimension_4 rfl rfl ?_
      refine v_aload_n fx 0 dX8_oneDimension_5 rfl rfl ?_
      refine v_get fx 0 9 inX8 k1005 dX8_oneDimension_6 rfl rfl (by decide) rfl rfl rfl ?_
      refine v_icmp_ge fx 68 dX8_oneDimension_9 (by decide) rfl (by omega) (by omega) (fun h_1 => ?_) (fun h_1 => ?_)
      ·
        exact v_vret fx [(h0, ob 8 [.ref xa, .ref xb, .ref xc, .ref xd, .ref xe, .ref xf, .ref xg, .int (iI vc), .int (iI vk), .int (iI vw), .ref xm, .ref xv, .int (iI vg), .ref xw, .int (iI b1), .int (iI vi), .ref xq, .int (iI ve), .int (iI vf), .int (iI vu), .int (iI vl), .ref xr, .ref xh, .ref xo, .ref xp, .int (iI vr), .int (iI va), .int (iI vt), .int (iI vm), .int (iI vd), .int (iI vx)]), (xw, aI g 72000 f1), (xv, aZ g 72000 fg), (xa, aI g 64 (lfT mW 64)), (xb, aI g 64 (lfT mB 64)), (xc, aI g 27 (lfT mWM 27)), (xd, aI g 27 (lfT mBM 27)), (xe, aI g 13 (lfT mBO 13))] [0, 1, 2, 3, 4, 5, 6, 7] hr dX8_oneDimension_68 rfl rfl (nl rfl) (nl rfl) ⟨b1, f1, rfl, rfl, (by first | omega | rfl | assumption)⟩
      ·
        refine v_iload_n fx 2 dX8_oneDimension_12 rfl rfl ?_
        refine v_istore fx [(4, .int (iI x)), (0, .ref h0), (1, .int (iI ba)), (2, .int (iI x)), (3, .int (iI bk))] dX8_oneDimension_13 (by decide) rfl rfl ?_
        have L15 : ∀ (N : Nat) (t : Int), (x ≤ t ∧ t ≤ vw) → ((vw - t).toNat) < N → V p9 l e9 (rmD 4 0 0) s9 m9 ag9 bl9 mt9 c9 5 g A9 (MQ bl9 (cQ g (po_c_X8_oneDimension g h0 xa xb xc xd xe xf xg xm xv xw xq xr xh xo xp vc vk vw vg vb vi ve vf vu vl vr va vt vm vd vx f fg ba) A9) ag9 s9 0 0 A9) [(h0, ob 8 [.ref xa, .ref xb, .ref xc, .ref xd, .ref xe, .ref xf, .ref xg, .int (iI vc), .int (iI vk), .int (iI vw), .ref xm, .ref xv, .int (iI vg), .ref xw, .int (iI b1), .int (iI vi), .ref xq, .int (iI ve), .int (iI vf), .int (iI vu), .int (iI vl), .ref xr, .ref xh, .ref xo, .ref xp, .int (iI vr), .int (iI va), .int (iI vt), .int (iI vm), .int (iI vd), .int (iI vx)]), (xw, aI g 72000 f1), (xv, aZ g 72000 fg), (xa, aI g 64 (lfT mW 64)), (xb, aI g 64 (lfT mB 64)), (xc, aI g 27 (lfT mWM 27)), (xd, aI g 27 (lfT mBM 27)), (xe, aI g 13 (lfT mBO 13))] 0 0 [(0, .ref h0), (1, .int (iI ba)), (2, .int (iI x)), (3, .int (iI bk)), (4, .int (iI t))] 15 [] := by
          intro N
          induction N with
          | zero => intro t hi15_0 hN; exact absurd hN (Nat.not_lt_zero _)
          | succ N ihL15 =>
            intro t hi15_0 hN15
            refine v_iload fx 4 dX8_oneDimension_15 rfl rfl ?_
            refine v_aload_n fx 0 dX8_oneDimension_17 rfl rfl ?_
            refine v_get fx 0 9 inX8 k1005 dX8_oneDimension_18 rfl rfl (by decide) rfl rfl rfl ?_
            refine v_icmp_ge fx 43 dX8_oneDimension_21 (by decide) rfl (by omega) (by omega) (fun h_2 => ?_) (fun h_2 => ?_)
            ·
              have hpr : 1 ≤ fi + (t - x) := by
                first | omega | exact pr_of hi4_2 hgz hne (by omega) hgb (by omega) (by omega) (by omega)
              refine v_aload_n fx 0 dX8_oneDimension_43 rfl rfl ?_
              refine v_iload fx 4 dX8_oneDimension_44 rfl rfl ?_
              refine v_iload_n fx 2 dX8_oneDimension_46 rfl rfl ?_
              refine v_isub fx (t - x) dX8_oneDimension_47 (by rfl) rfl ?_
              refine v_iload_n fx 3 dX8_oneDimension_48 rfl rfl ?_
              refine v_callV (As := [.int (iI (t - x)), .int (iI bk)]) (rest := []) fx [0, 1, 3, 4, 5, 6, 7] [2] [(h0, ob 8 [.ref xa, .ref xb, .ref xc, .ref xd, .ref xe, .ref xf, .ref xg, .int (iI vc), .int (iI vk), .int (iI vw), .ref xm, .ref xv, .int (iI vg), .ref xw, .int (iI b1), .int (iI vi), .ref xq, .int (iI ve), .int (iI vf), .int (iI vu), .int (iI vl), .ref xr, .ref xh, .ref xo, .ref xp, .int (iI vr), .int (iI va), .int (iI vt), .int (iI vm), .int (iI vd), .int (iI vx)]), (xw, aI g 72000 f1), (xa, aI g 64 (lfT mW 64)), (xb, aI g 64 (lfT mB 64)), (xc, aI g 27 (lfT mWM 27)), (xd, aI g 27 (lfT mBM 27)), (xe, aI g 13 (lfT mBO 13))] [(xv, aZ g 72000 fg)] 2 0 (c_X8_run l g h0 xa xb xc xd xe xf xg xm xv xw xq xr xh xo xp vc vk vw vg b1 vi ve vf vu vl vr va vt vm vd vx f1 (t - x) bk (by first | omega | decide | assumption) (by first | omega | decide | assumption) (by first | omega | decide | assumption) (by first | omega | decide | assumption)) dX8_oneDimension_49 k1118 k1120 k25 k57 k1121 ykX8_run rfl rfl rfl rfl rfl rfl rfl rfl (nl rfl) ⟨nl rfl, nl rfl⟩ ⟨(nl rfl), (nl rfl)⟩ rfl (fun v9 w9 hu => ?_)
              obtain ⟨b2_3, f2_4, rfl, rfl, u_5, u_6⟩ := hu
              refine v_is (wn := [(xv, aZ g 72000 fg), (h0, ob 8 [.ref xa, .ref xb, .ref xc, .ref xd, .ref xe, .ref xf, .ref xg, .int (iI vc), .int (iI vk), .int (iI vw), .ref xm, .ref xv, .int (iI vg), .ref xw, .int (iI b2_3), .int (iI vi), .ref xq, .int (iI ve), .int (iI vf), .int (iI vu), .int (iI vl), .ref xr, .ref xh, .ref xo, .ref xp, .int (iI vr), .int (iI va), .int (iI vt), .int (iI vm), .int (iI vd), .int (iI vx)]), (xw, aI g 72000 f2_4), (xa, aI g 64 (lfT mW 64)), (xb, aI g 64 (lfT mB 64)), (xc, aI g 27 (lfT mWM 27)), (xd, aI g 27 (lfT mBM 27)), (xe, aI g 13 (lfT mBO 13))]) (cn := 0) (sn := 0) (sn2 := []) rfl rfl rfl rfl ?_
              refine v_iload fx 4 dX8_oneDimension_52 rfl rfl ?_
              refine v_istore_n fx [(2, .int (iI t)), (0, .ref h0), (1, .int (iI ba)), (3, .int (iI bk)), (4, .int (iI t))] dX8_oneDimension_54 (by decide) rfl rfl ?_
              refine v_iload_n fx 3 dX8_oneDimension_55 rfl rfl ?_
              refine v_if_ne fx 63 dX8_oneDimension_56 (by decide) rfl (by omega) (fun h_7 => ?_) (fun h_7 => ?_)
              ·
                refine v_iconst fx dX8_oneDimension_63 rfl ?_
                refine v_istore_n fx [(3, .int (iI 0)), (2, .int (iI t)), (0, .ref h0), (1, .int (iI ba)), (4, .int (iI t))] dX8_oneDimension_64 (by decide) rfl rfl ?_
                refine v_goto fx 4 dX8_oneDimension_65 (by decide) ?_
                refine v_ws [1, 2, 0, 3, 4, 5, 6, 7] [(h0, ob 8 [.ref xa, .ref xb, .ref xc, .ref xd, .ref xe, .ref xf, .ref xg, .int (iI vc), .int (iI vk), .int (iI vw), .ref xm, .ref xv, .int (iI vg), .ref xw, .int (iI b2_3), .int (iI vi), .ref xq, .int (iI ve), .int (iI vf), .int (iI vu), .int (iI vl), .ref xr, .ref xh, .ref xo, .ref xp, .int (iI vr), .int (iI va), .int (iI vt), .int (iI vm), .int (iI vd), .int (iI vx)]), (xw, aI g 72000 f2_4), (xv, aZ g 72000 fg), (xa, aI g 64 (lfT mW 64)), (xb, aI g 64 (lfT mB 64)), (xc, aI g 27 (lfT mWM 27)), (xd, aI g 27 (lfT mBM 27)), (xe, aI g 13 (lfT mBO 13))] rfl rfl ?_
                refine v_lv [2, 3, 1, 0] [(0, .ref h0), (1, .int (iI ba)), (2, .int (iI t)), (3, .int (iI 0))] rfl ?_
                exact ihL4 t 0 0 b2_3 f2_4 (by omega) (by omega) (by first | exact fun _ h => absurd h (by omega) | exact fun _ _ => hgz.trans (congrArg iI (by omega))) (by omega) (by omega)
              ·
                refine v_iconst fx dX8_oneDimension_59 rfl ?_
                refine v_goto fx 64 dX8_oneDimension_60 (by decide) ?_
                refine v_istore_n fx [(3, .int (iI 1)), (2, .int (iI t)), (0, .ref h0), (1, .int (iI ba)), (4, .int (iI t))] dX8_oneDimension_64 (by decide) rfl rfl ?_
                refine v_goto fx 4 dX8_oneDimension_65 (by decide) ?_
                refine v_ws [1, 2, 0, 3, 4, 5, 6, 7] [(h0, ob 8 [.ref xa, .ref xb, .ref xc, .ref xd, .ref xe, .ref xf, .ref xg, .int (iI vc), .int (iI vk), .int (iI vw), .ref xm, .ref xv, .int (iI vg), .ref xw, .int (iI b2_3), .int (iI vi), .ref xq, .int (iI ve), .int (iI vf), .int (iI vu), .int (iI vl), .ref xr, .ref xh, .ref xo, .ref xp, .int (iI vr), .int (iI va), .int (iI vt), .int (iI vm), .int (iI vd), .int (iI vx)]), (xw, aI g 72000 f2_4), (xv, aZ g 72000 fg), (xa, aI g 64 (lfT mW 64)), (xb, aI g 64 (lfT mB 64)), (xc, aI g 27 (lfT mWM 27)), (xd, aI g 27 (lfT mBM 27)), (xe, aI g 13 (lfT mBO 13))] rfl rfl ?_
                refine v_lv [2, 3, 1, 0] [(0, .ref h0), (1, .int (iI ba)), (2, .int (iI t)), (3, .int (iI 1))] rfl ?_
                exact ihL4 t 1 0 b2_3 f2_4 (by omega) (by omega) (by first | exact fun _ h => absurd h (by omega) | exact fun _ _ => hgz.trans (congrArg iI (by omega))) (by omega) (by omega)
            ·
              refine v_aload_n fx 0 dX8_oneDimension_24 rfl rfl ?_
              refine v_get fx 0 11 inX8 k1007 dX8_oneDimension_25 rfl rfl (by decide) rfl rfl rfl ?_
              refine v_iload_n fx 1 dX8_oneDimension_28 rfl rfl ?_
              refine v_iload fx 4 dX8_oneDimension_29 rfl rfl ?_
              refine v_iadd fx (ba + t) dX8_oneDimension_31 (by rfl) rfl ?_
              refine v_zald fx 2 dX8_oneDimension_32 rfl (by omega) (by omega) rfl ?_
              refine v_any (fun z_8 hz_8 ez_8 => ?_)
              have hgz := ez_8
              have hgb := hz_8
              have hgb2 := bZ_at hp4 ez_8 hz_8
              refine v_iload_n fx 3 dX8_oneDimension_33 rfl rfl ?_
              refine v_icmp_ne fx 43 dX8_oneDimension_34 (by decide) rfl (by omega) (by omega) (fun h_9 => ?_) (fun h_9 => ?_)
              ·
                have hne := h_9
                have hpr : 1 ≤ fi + (t - x) := by
                  first | omega | exact pr_of hi4_2 hgz hne (by omega) hgb (by omega) (by omega) (by omega)
                refine v_aload_n fx 0 dX8_oneDimension_43 rfl rfl ?_
                refine v_iload fx 4 dX8_oneDimension_44 rfl rfl ?_
                refine v_iload_n fx 2 dX8_oneDimension_46 rfl rfl ?_
                refine v_isub fx (t - x) dX8_oneDimension_47 (by rfl) rfl ?_
                refine v_iload_n fx 3 dX8_oneDimension_48 rfl rfl ?_
                refine v_callV (As := [.int (iI (t - x)), .int (iI bk)]) (rest := []) fx [0, 1, 3, 4, 5, 6, 7] [2] [(h0, ob 8 [.ref xa, .ref xb, .ref xc, .ref xd, .ref xe, .ref xf, .ref xg, .int (iI vc), .int (iI vk), .int (iI vw), .ref xm, .ref xv, .int (iI vg), .ref xw, .int (iI b1), .int (iI vi), .ref xq, .int (iI ve), .int (iI vf), .int (iI vu), .int (iI vl), .ref xr, .ref xh, .ref xo, .ref xp, .int (iI vr), .int (iI va), .int (iI vt), .int (iI vm), .int (iI vd), .int (iI vx)]), (xw, aI g 72000 f1), (xa, aI g 64 (lfT mW 64)), (xb, aI g 64 (lfT mB 64)), (xc, aI g 27 (lfT mWM 27)), (xd, aI g 27 (lfT mBM 27)), (xe, aI g 13 (lfT mBO 13))] [(xv, aZ g 72000 fg)] 2 0 (c_X8_run l g h0 xa xb xc xd xe xf xg xm xv xw xq xr xh xo xp vc vk vw vg b1 vi ve vf vu vl vr va vt vm vd vx f1 (t - x) bk (by first | omega | decide | assumption) (by first | omega | decide | assumption) (by first | omega | decide | assumption) (by first | omega | decide | assumption)) dX8_oneDimension_49 k1118 k1120 k25 k57 k1121 ykX8_run rfl rfl rfl rfl rfl rfl rfl rfl (nl rfl) ⟨nl rfl, nl rfl⟩ ⟨(nl rfl), (nl rfl)⟩ rfl (fun v9 w9 hu => ?_)
                obtain ⟨b2_10, f2_11, rfl, rfl, u_12, u_13⟩ := hu
                refine v_is (wn := [(xv, aZ g 72000 fg), (h0, ob 8 [.ref xa, .ref xb, .ref xc, .ref xd, .ref xe, .ref xf, .ref xg, .int (iI vc), .int (iI vk), .int (iI vw), .ref xm, .ref xv, .int (iI vg), .ref xw, .int (iI b2_10), .int (iI vi), .ref xq, .int (iI ve), .int (iI vf), .int (iI vu), .int (iI vl), .ref xr, .ref xh, .ref xo, .ref xp, .int (iI vr), .int (iI va), .int (iI vt), .int (iI vm), .int (iI vd), .int (iI vx)]), (xw, aI g 72000 f2_11), (xa, aI g 64 (lfT mW 64)), (xb, aI g 64 (lfT mB 64)), (xc, aI g 27 (lfT mWM 27)), (xd, aI g 27 (lfT mBM 27)), (xe, aI g 13 (lfT mBO 13))]) (cn := 0) (sn := 0) (sn2 := []) rfl rfl rfl rfl ?_
                refine v_iload fx 4 dX8_oneDimension_52 rfl rfl ?_
                refine v_istore_n fx [(2, .int (iI t)), (0, .ref h0), (1, .int (iI ba)), (3, .int (iI bk)), (4, .int (iI t))] dX8_oneDimension_54 (by decide) rfl rfl ?_
                refine v_iload_n fx 3 dX8_oneDimension_55 rfl rfl ?_
                refine v_if_ne fx 63 dX8_oneDimension_56 (by decide) rfl (by omega) (fun h_14 => ?_) (fun h_14 => ?_)
                ·
                  refine v_iconst fx dX8_oneDimension_63 rfl ?_
                  refine v_istore_n fx [(3, .int (iI 0)), (2, .int (iI t)), (0, .ref h0), (1, .int (iI ba)), (4, .int (iI t))] dX8_oneDimension_64 (by decide) rfl rfl ?_
                  refine v_goto fx 4 dX8_oneDimension_65 (by decide) ?_
                  refine v_ws [1, 2, 0, 3, 4, 5, 6, 7] [(h0, ob 8 [.ref xa, .ref xb, .ref xc, .ref xd, .ref xe, .ref xf, .ref xg, .int (iI vc), .int (iI vk), .int (iI vw), .ref xm, .ref xv, .int (iI vg), .ref xw, .int (iI b2_10), .int (iI vi), .ref xq, .int (iI ve), .int (iI vf), .int (iI vu), .int (iI vl), .ref xr, .ref xh, .ref xo, .ref xp, .int (iI vr), .int (iI va), .int (iI vt), .int (iI vm), .int (iI vd), .int (iI vx)]), (xw, aI g 72000 f2_11), (xv, aZ g 72000 fg), (xa, aI g 64 (lfT mW 64)), (xb, aI g 64 (lfT mB 64)), (xc, aI g 27 (lfT mWM 27)), (xd, aI g 27 (lfT mBM 27)), (xe, aI g 13 (lfT mBO 13))] rfl rfl ?_
                  refine v_lv [2, 3, 1, 0] [(0, .ref h0), (1, .int (iI ba)), (2, .int (iI t)), (3, .int (iI 0))] rfl ?_
                  exact ihL4 t 0 0 b2_10 f2_11 (by omega) (by omega) (by first | exact fun _ h => absurd h (by omega) | exact fun _ _ => hgz.trans (congrArg iI (by omega))) (by omega) (by omega)
                ·
                  refine v_iconst fx dX8_oneDimension_59 rfl ?_
                  refine v_goto fx 64 dX8_oneDimension_60 (by decide) ?_
                  refine v_istore_n fx [(3, .int (iI 1)), (2, .int (iI t)), (0, .ref h0), (1, .int (iI ba)), (4, .int (iI t))] dX8_oneDimension_64 (by decide) rfl rfl ?_
                  refine v_goto fx 4 dX8_oneDimension_65 (by decide) ?_
                  refine v_ws [1, 2, 0, 3, 4, 5, 6, 7] [(h0, ob 8 [.ref xa, .ref xb, .ref xc, .ref xd, .ref xe, .ref xf, .ref xg, .int (iI vc), .int (iI vk), .int (iI vw), .ref xm, .ref xv, .int (iI vg), .ref xw, .int (iI b2_10), .int (iI vi), .ref xq, .int (iI ve), .int (iI vf), .int (iI vu), .int (iI vl), .ref xr, .ref xh, .ref xo, .ref xp, .int (iI vr), .int (iI va), .int (iI vt), .int (iI vm), .int (iI vd), .int (iI vx)]), (xw, aI g 72000 f2_11), (xv, aZ g 72000 fg), (xa, aI g 64 (lfT mW 64)), (xb, aI g 64 (lfT mB 64)), (xc, aI g 27 (lfT mWM 27)), (xd, aI g 27 (lfT mBM 27)), (xe, aI g 13 (lfT mBO 13))] rfl rfl ?_
                  refine v_lv [2, 3, 1, 0] [(0, .ref h0), (1, .int (iI ba)), (2, .int (iI t)), (3, .int (iI 1))] rfl ?_
                  exact ihL4 t 1 0 b2_10 f2_11 (by omega) (by omega) (by first | exact fun _ h => absurd h (by omega) | exact fun _ _ => hgz.trans (congrArg iI (by omega))) (by omega) (by omega)
              ·
                refine v_iinc fx 4 (t + 1) [(4, .int (iI (t + 1))), (0, .ref h0), (1, .int (iI ba)), (2, .int (iI x)), (3, .int (iI bk))] dX8_oneDimension_37 rfl (by omega) (by decide) rfl rfl ?_
                refine v_goto fx 15 dX8_oneDimension_40 (by decide) ?_
                refine v_lv [1, 2, 3, 4, 0] [(0, .ref h0), (1, .int (iI ba)), (2, .int (iI x)), (3, .int (iI bk)), (4, .int (iI (t + 1)))] rfl ?_
                exact ihL15 (t + 1) (by omega) (by omega)
        refine v_lv [1, 2, 3, 4, 0] [(0, .ref h0), (1, .int (iI ba)), (2, .int (iI x)), (3, .int (iI bk)), (4, .int (iI x))] rfl ?_
        exact L15 _ x (by omega) (Nat.lt_succ_self _)
  refine v_lv [2, 3, 1, 0] [(0, .ref h0), (1, .int (iI ba)), (2, .int (iI 0)), (3, .int (iI 0))] rfl ?_
  exact L4 _ 0 0 1 vb f (by omega) (by omega) (by exact fun h => absurd h (by decide)) (by omega) (Nat.lt_succ_self _)
theorem dX8_twoDimensions_0 : decode cX8_twoDimensions 0 = .ok (.iconst (-1), 1) := by decide +kernel
theorem dX8_twoDimensions_1 : decode cX8_twoDimensions 1 = .ok (.istore_n 3, 1) := by decide +kernel
theorem dX8_twoDimensions_2 : decode cX8_twoDimensions 2 = .ok (.iconst 0, 1) := by decide +kernel
theorem dX8_twoDimensions_3 : decode cX8_twoDimensions 3 = .ok (.istore 4, 2) := by decide +kernel
theorem dX8_twoDimensions_5 : decode cX8_twoDimensions 5 = .ok (.iload_n 3, 1) := by decide +kernel
theorem dX8_twoDimensions_6 : decode cX8_twoDimensions 6 = .ok (.aload_n 0, 1) := by decide +kernel
theorem dX8_twoDimensions_7 : decode cX8_twoDimensions 7 = .ok (.getfield 63, 3) := by decide +kernel
theorem dX8_twoDimensions_10 : decode cX8_twoDimensions 10 = .ok (.if_icmp .ge 188, 3) := by decide +kernel
theorem dX8_twoDimensions_13 : decode cX8_twoDimensions 13 = .ok (.aload_n 0, 1) := by decide +kernel
theorem dX8_twoDimensions_14 : decode cX8_twoDimensions 14 = .ok (.aload_n 0, 1) := by decide +kernel
theorem dX8_twoDimensions_15 : decode cX8_twoDimensions 15 = .ok (.getfield 36, 3) := by decide +kernel
theorem dX8_twoDimensions_18 : decode cX8_twoDimensions 18 = .ok (.iload_n 1, 1) := by decide +kernel
theorem dX8_twoDimensions_19 : decode cX8_twoDimensions 19 = .ok (.iload_n 3, 1) := by decide +kernel
theorem dX8_twoDimensions_20 : decode cX8_twoDimensions 20 = .ok (.invokevirtual 94, 3) := by decide +kernel
theorem dX8_twoDimensions_23 : decode cX8_twoDimensions 23 = .ok (.istore 5, 2) := by decide +kernel
theorem dX8_twoDimensions_25 : decode cX8_twoDimensions 25 = .ok (.aload_n 0, 1) := by decide +kernel
theorem dX8_twoDimensions_26 : decode cX8_twoDimensions 26 = .ok (.aload_n 0, 1) := by decide +kernel
theorem dX8_twoDimensions_27 : decode cX8_twoDimensions 27 = .ok (.getfield 36, 3) := by decide +kernel
theorem dX8_twoDimensions_30 : decode cX8_twoDimensions 30 = .ok (.iload_n 2, 1) := by decide +kernel
theorem dX8_twoDimensions_31 : decode cX8_twoDimensions 31 = .ok (.iload_n 3, 1) := by decide +kernel
theorem dX8_twoDimensions_32 : decode cX8_twoDimensions 32 = .ok (.iload 4, 2) := by decide +kernel
theorem dX8_twoDimensions_34 : decode cX8_twoDimensions 34 = .ok (.invokevirtual 98, 3) := by decide +kernel
theorem dX8_twoDimensions_37 : decode cX8_twoDimensions 37 = .ok (.istore 6, 2) := by decide +kernel
theorem dX8_twoDimensions_39 : decode cX8_twoDimensions 39 = .ok (.iload 5, 2) := by decide +kernel
theorem dX8_twoDimensions_41 : decode cX8_twoDimensions 41 = .ok (.iload 6, 2) := by decide +kernel
theorem dX8_twoDimensions_43 : decode cX8_twoDimensions 43 = .ok (.isub, 1) := by decide +kernel
theorem dX8_twoDimensions_44 : decode cX8_twoDimensions 44 = .ok (.istore 7, 2) := by decide +kernel
theorem dX8_twoDimensions_46 : decode cX8_twoDimensions 46 = .ok (.aload_n 0, 1) := by decide +kernel
theorem dX8_twoDimensions_47 : decode cX8_twoDimensions 47 = .ok (.aload_n 0, 1) := by decide +kernel
theorem dX8_twoDimensions_48 : decode cX8_twoDimensions 48 = .ok (.getfield 36, 3) := by decide +kernel
theorem dX8_twoDimensions_51 : decode cX8_twoDimensions 51 = .ok (.iload_n 2, 1) := by decide +kernel
theorem dX8_twoDimensions_52 : decode cX8_twoDimensions 52 = .ok (.iload 6, 2) := by decide +kernel
theorem dX8_twoDimensions_54 : decode cX8_twoDimensions 54 = .ok (.invokevirtual 102, 3) := by decide +kernel
theorem dX8_twoDimensions_57 : decode cX8_twoDimensions 57 = .ok (.iload 5, 2) := by decide +kernel
theorem dX8_twoDimensions_59 : decode cX8_twoDimensions 59 = .ok (.if_icmp .ge 24, 3) := by decide +kernel
theorem dX8_twoDimensions_62 : decode cX8_twoDimensions 62 = .ok (.aload_n 0, 1) := by decide +kernel
theorem dX8_twoDimensions_63 : decode cX8_twoDimensions 63 = .ok (.iconst 1, 1) := by decide +kernel
theorem dX8_twoDimensions_64 : decode cX8_twoDimensions 64 = .ok (.iconst 4, 1) := by decide +kernel
theorem dX8_twoDimensions_65 : decode cX8_twoDimensions 65 = .ok (.invokevirtual 83, 3) := by decide +kernel
theorem dX8_twoDimensions_68 : decode cX8_twoDimensions 68 = .ok (.aload_n 0, 1) := by decide +kernel
theorem dX8_twoDimensions_69 : decode cX8_twoDimensions 69 = .ok (.aload_n 0, 1) := by decide +kernel
theorem dX8_twoDimensions_70 : decode cX8_twoDimensions 70 = .ok (.getfield 36, 3) := by decide +kernel
theorem dX8_twoDimensions_73 : decode cX8_twoDimensions 73 = .ok (.iload_n 2, 1) := by decide +kernel
theorem dX8_twoDimensions_74 : decode cX8_twoDimensions 74 = .ok (.iload 6, 2) := by decide +kernel
theorem dX8_twoDimensions_76 : decode cX8_twoDimensions 76 = .ok (.invokevirtual 102, 3) := by decide +kernel
theorem dX8_twoDimensions_79 : decode cX8_twoDimensions 79 = .ok (.istore_n 3, 1) := by decide +kernel
theorem dX8_twoDimensions_80 : decode cX8_twoDimensions 80 = .ok (.goto 115, 3) := by decide +kernel
theorem dX8_twoDimensions_83 : decode cX8_twoDimensions 83 = .ok (.iload 7, 2) := by decide +kernel
theorem dX8_twoDimensions_85 : decode cX8_twoDimensions 85 = .ok (.bipush (-3), 2) := by decide +kernel
theorem dX8_twoDimensions_87 : decode cX8_twoDimensions 87 = .ok (.if_icmp .lt 33, 3) := by decide +kernel
theorem dX8_twoDimensions_90 : decode cX8_twoDimensions 90 = .ok (.iload 7, 2) := by decide +kernel
theorem dX8_twoDimensions_92 : decode cX8_twoDimensions 92 = .ok (.iconst 3, 1) := by decide +kernel
theorem dX8_twoDimensions_93 : decode cX8_twoDimensions 93 = .ok (.if_icmp .gt 27, 3) := by decide +kernel
theorem dX8_twoDimensions_96 : decode cX8_twoDimensions 96 = .ok (.aload_n 0, 1) := by decide +kernel
theorem dX8_twoDimensions_97 : decode cX8_twoDimensions 97 = .ok (.iload 7, 2) := by decide +kernel
theorem dX8_twoDimensions_99 : decode cX8_twoDimensions 99 = .ok (.invokevirtual 105, 3) := by decide +kernel
theorem dX8_twoDimensions_102 : decode cX8_twoDimensions 102 = .ok (.iload 5, 2) := by decide +kernel
theorem dX8_twoDimensions_104 : decode cX8_twoDimensions 104 = .ok (.istore_n 3, 1) := by decide +kernel
theorem dX8_twoDimensions_105 : decode cX8_twoDimensions 105 = .ok (.iload 4, 2) := by decide +kernel
theorem dX8_twoDimensions_107 : decode cX8_twoDimensions 107 = .ok (.ifCond .ne 7, 3) := by decide +kernel
theorem dX8_twoDimensions_110 : decode cX8_twoDimensions 110 = .ok (.iconst 1, 1) := by decide +kernel
theorem dX8_twoDimensions_111 : decode cX8_twoDimensions 111 = .ok (.goto 4, 3) := by decide +kernel
theorem dX8_twoDimensions_114 : decode cX8_twoDimensions 114 = .ok (.iconst 0, 1) := by decide +kernel
theorem dX8_twoDimensions_115 : decode cX8_twoDimensions 115 = .ok (.istore 4, 2) := by decide +kernel
theorem dX8_twoDimensions_117 : decode cX8_twoDimensions 117 = .ok (.goto 78, 3) := by decide +kernel
theorem dX8_twoDimensions_120 : decode cX8_twoDimensions 120 = .ok (.iload 5, 2) := by decide +kernel
theorem dX8_twoDimensions_122 : decode cX8_twoDimensions 122 = .ok (.aload_n 0, 1) := by decide +kernel
theorem dX8_twoDimensions_123 : decode cX8_twoDimensions 123 = .ok (.getfield 63, 3) := by decide +kernel
theorem dX8_twoDimensions_126 : decode cX8_twoDimensions 126 = .ok (.if_icmp .ge 17, 3) := by decide +kernel
theorem dX8_twoDimensions_129 : decode cX8_twoDimensions 129 = .ok (.aload_n 0, 1) := by decide +kernel
theorem dX8_twoDimensions_130 : decode cX8_twoDimensions 130 = .ok (.aload_n 0, 1) := by decide +kernel
theorem dX8_twoDimensions_131 : decode cX8_twoDimensions 131 = .ok (.getfield 36, 3) := by decide +kernel
theorem dX8_twoDimensions_134 : decode cX8_twoDimensions 134 = .ok (.iload_n 1, 1) := by decide +kernel
theorem dX8_twoDimensions_135 : decode cX8_twoDimensions 135 = .ok (.iload 5, 2) := by decide +kernel
theorem dX8_twoDimensions_137 : decode cX8_twoDimensions 137 = .ok (.invokevirtual 94, 3) := by decide +kernel
theorem dX8_twoDimensions_140 : decode cX8_twoDimensions 140 = .ok (.goto 7, 3) := by decide +kernel
theorem dX8_twoDimensions_143 : decode cX8_twoDimensions 143 = .ok (.aload_n 0, 1) := by decide +kernel
theorem dX8_twoDimensions_144 : decode cX8_twoDimensions 144 = .ok (.getfield 63, 3) := by decide +kernel
theorem dX8_twoDimensions_147 : decode cX8_twoDimensions 147 = .ok (.istore 8, 2) := by decide +kernel
theorem dX8_twoDimensions_149 : decode cX8_twoDimensions 149 = .ok (.aload_n 0, 1) := by decide +kernel
theorem dX8_twoDimensions_150 : decode cX8_twoDimensions 150 = .ok (.iconst 1, 1) := by decide +kernel
theorem dX8_twoDimensions_151 : decode cX8_twoDimensions 151 = .ok (.iconst 3, 1) := by decide +kernel
theorem dX8_twoDimensions_152 : decode cX8_twoDimensions 152 = .ok (.invokevirtual 83, 3) := by decide +kernel
theorem dX8_twoDimensions_155 : decode cX8_twoDimensions 155 = .ok (.aload_n 0, 1) := by decide +kernel
theorem dX8_twoDimensions_156 : decode cX8_twoDimensions 156 = .ok (.iload 5, 2) := by decide +kernel
theorem dX8_twoDimensions_158 : decode cX8_twoDimensions 158 = .ok (.iload_n 3, 1) := by decide +kernel
theorem dX8_twoDimensions_159 : decode cX8_twoDimensions 159 = .ok (.ifCond .ge 7, 3) := by decide +kernel
theorem dX8_twoDimensions_162 : decode cX8_twoDimensions 162 = .ok (.iconst 0, 1) := by decide +kernel
theorem dX8_twoDimensions_163 : decode cX8_twoDimensions 163 = .ok (.goto 4, 3) := by decide +kernel
theorem dX8_twoDimensions_166 : decode cX8_twoDimensions 166 = .ok (.iload_n 3, 1) := by decide +kernel
theorem dX8_twoDimensions_167 : decode cX8_twoDimensions 167 = .ok (.isub, 1) := by decide +kernel
theorem dX8_twoDimensions_168 : decode cX8_twoDimensions 168 = .ok (.iload 4, 2) := by decide +kernel
theorem dX8_twoDimensions_170 : decode cX8_twoDimensions 170 = .ok (.invokevirtual 90, 3) := by decide +kernel
theorem dX8_twoDimensions_173 : decode cX8_twoDimensions 173 = .ok (.aload_n 0, 1) := by decide +kernel
theorem dX8_twoDimensions_174 : decode cX8_twoDimensions 174 = .ok (.iload 8, 2) := by decide +kernel
theorem dX8_twoDimensions_176 : decode cX8_twoDimensions 176 = .ok (.iload 5, 2) := by decide +kernel
theorem dX8_twoDimensions_178 : decode cX8_twoDimensions 178 = .ok (.isub, 1) := by decide +kernel
theorem dX8_twoDimensions_179 : decode cX8_twoDimensions 179 = .ok (.iload 4, 2) := by decide +kernel
theorem dX8_twoDimensions_181 : decode cX8_twoDimensions 181 = .ok (.ifCond .ne 7, 3) := by decide +kernel
theorem dX8_twoDimensions_184 : decode cX8_twoDimensions 184 = .ok (.iconst 1, 1) := by decide +kernel
theorem dX8_twoDimensions_185 : decode cX8_twoDimensions 185 = .ok (.goto 4, 3) := by decide +kernel
theorem dX8_twoDimensions_188 : decode cX8_twoDimensions 188 = .ok (.iconst 0, 1) := by decide +kernel
theorem dX8_twoDimensions_189 : decode cX8_twoDimensions 189 = .ok (.invokevirtual 90, 3) := by decide +kernel
theorem dX8_twoDimensions_192 : decode cX8_twoDimensions 192 = .ok (.iload 8, 2) := by decide +kernel
theorem dX8_twoDimensions_194 : decode cX8_twoDimensions 194 = .ok (.istore_n 3, 1) := by decide +kernel
theorem dX8_twoDimensions_195 : decode cX8_twoDimensions 195 = .ok (.goto (-190), 3) := by decide +kernel
theorem dX8_twoDimensions_198 : decode cX8_twoDimensions 198 = .ok (.return_, 1) := by decide +kernel
abbrev po_c_X8_twoDimensions (g : GG) (h0 : Nat) (xa : Nat) (xb : Nat) (xc : Nat) (xd : Nat) (xe : Nat) (xf : Nat) (xg : Nat) (xm : Nat) (xv : Nat) (xw : Nat) (xq : Nat) (xr : Nat) (xh : Nat) (xo : Nat) (xp : Nat) (vc : Int) (vk : Int) (vw : Int) (vg : Int) (vb : Int) (vi : Int) (ve : Int) (vf : Int) (vu : Int) (vl : Int) (vr : Int) (va : Int) (vt : Int) (vm : Int) (vd : Int) (vx : Int) (f : Nat → Int32) (fg : Nat → Int32) (ba : Int) (ab : Int) : Option Value → va_W → Prop := fun v8 w8 => ∃ b2 : Int, ∃ f2 : Nat → Int32, v8 = none ∧ w8 = [(h0, ob 8 [.ref xa, .ref xb, .ref xc, .ref xd, .ref xe, .ref xf, .ref xg, .int (iI vc), .int (iI vk), .int (iI vw), .ref xm, .ref xv, .int (iI vg), .ref xw, .int (iI b2), .int (iI vi), .ref xq, .int (iI ve), .int (iI vf), .int (iI vu), .int (iI vl), .ref xr, .ref xh, .ref xo, .ref xp, .int (iI vr), .int (iI va), .int (iI vt), .int (iI vm), .int (iI vd), .int (iI vx)]), (xw, aI g 72000 f2), (xv, aZ g 72000 fg), (xa, aI g 64 (lfT mW 64)), (xb, aI g 64 (lfT mB 64)), (xc, aI g 27 (lfT mWM 27)), (xd, aI g 27 (lfT mBM 27)), (xe, aI g 13 (lfT mBO 13))] ∧ (vb ≤ b2 ∧ b2 ≤ vb + 7 * vw + 30)
set_option maxHeartbeats 4000000 in
set_option maxRecDepth 100000 in
theorem c_X8_twoDimensions (l : Launch) (g : GG) (h0 : Nat) (xa : Nat) (xb : Nat) (xc : Nat) (xd : Nat) (xe : Nat) (xf : Nat) (xg : Nat) (xm : Nat) (xv : Nat) (xw : Nat) (xq : Nat) (xr : Nat) (xh : Nat) (xo : Nat) (xp : Nat) (vc : Int) (vk : Int) (vw : Int) (vg : Int) (vb : Int) (vi : Int) (ve : Int) (vf : Int) (vu : Int) (vl : Int) (vr : Int) (va : Int) (vt : Int) (vm : Int) (vd : Int) (vx : Int) (f : Nat → Int32) (fg : Nat → Int32) (ba : Int) (ab : Int) (hp0 : 0 ≤ vb ∧ vb + 7 * vw + 80 ≤ 576000) (hp1 : 0 ≤ vl ∧ vl ≤ 1) (hp2 : 1 ≤ vw ∧ vw ≤ 3000) (hp3 : 0 ≤ ba ∧ ba + 3000 ≤ 72000) (hp4 : -1 ≤ ab ∧ ab + 3000 ≤ 72000) : Ct l g yX8_twoDimensions (wM yX8_twoDimensions cX8_twoDimensions 9 none) (rmD 4 0 0) [.ref h0, .int (iI ba), .int (iI ab)] [(h0, ob 8 [.ref xa, .ref xb, .ref xc, .ref xd, .ref xe, .ref xf, .ref xg, .int (iI vc), .int (iI vk), .int (iI vw), .ref xm, .ref xv, .int (iI vg), .ref xw, .int (iI vb), .int (iI vi), .ref xq, .int (iI ve), .int (iI vf), .int (iI vu), .int (iI vl), .ref xr, .ref xh, .ref xo, .ref xp, .int (iI vr), .int (iI va), .int (iI vt), .int (iI vm), .int (iI vd), .int (iI vx)]), (xw, aI g 72000 f), (xv, aZ g 72000 fg), (xa, aI g 64 (lfT mW 64)), (xb, aI g 64 (lfT mB 64)), (xc, aI g 27 (lfT mWM 27)), (xd, aI g 27 (lfT mBM 27)), (xe, aI g 13 (lfT mBO 13))] (po_c_X8_twoDimensions g h0 xa xb xc xd xe xf xg xm xv xw xq xr xh xo xp vc vk vw vg vb vi ve vf vu vl vr va vt vm vd vx f fg ba ab) := by
  refine Ct_of (by decide +kernel) (Nat.le_of_ble_eq_true rfl) ?_
  intro p9 e9 s9 m9 ag9 bl9 mt9 c9 A9 fx hr hnm
  refine v_iconst fx dX8_twoDimensions_0 rfl ?_
  refine v_istore_n fx [(3, .int (iI (-1))), (0, .ref h0), (1, .int (iI ba)), (2, .int (iI ab))] dX8_twoDimensions_1 (by decide) rfl rfl ?_
  refine v_iconst fx dX8_twoDimensions_2 rfl ?_
  refine v_istore fx [(4, .int (iI 0)), (3, .int (iI (-1))), (0, .ref h0), (1, .int (iI ba)), (2, .int (iI ab))] dX8_twoDimensions_3 (by decide) rfl rfl ?_
  have L5 : ∀ (N : Nat) (a0 : Int) (bk : Int) (b1 : Int) (f1 : Nat → Int32), (-1 ≤ a0 ∧ a0 ≤ vw) → (0 ≤ bk ∧ bk ≤ 1) → (vb ≤ b1 ∧ b1 ≤ vb + bgt a0 vw) → ((vw - a0).toNat) < N → V p9 l e9 (rmD 4 0 0) s9 m9 ag9 bl9 mt9 c9 9 g A9 (MQ bl9 (cQ g (po_c_X8_twoDimensions g h0 xa xb xc xd xe xf xg xm xv xw xq xr xh xo xp vc vk vw vg vb vi ve vf vu vl vr va vt vm vd vx f fg ba ab) A9) ag9 s9 0 0 A9) [(h0, ob 8 [.ref xa, .ref xb, .ref xc, .ref xd, .ref xe, .ref xf, .ref xg, .int (iI vc), .int (iI vk), .int (iI vw), .ref xm, .ref xv, .int (iI vg), .ref xw, .int (iI b1), .int (iI vi), .ref xq, .int (iI ve), .int (iI vf), .int (iI vu), .int (iI vl), .ref xr, .ref xh, .ref xo, .ref xp, .int (iI vr), .int (iI va), .int (iI vt), .int (iI vm), .int (iI vd), .int (iI vx)]), (xw, aI g 72000 f1), (xv, aZ g 72000 fg), (xa, aI g 64 (lfT mW 64)), (xb, aI g 64 (lfT mB 64)), (xc, aI g 27 (lfT mWM 27)), (xd, aI g 27 (lfT mBM 27)), (xe, aI g 13 (lfT mBO 13))] 0 0 [(0, .ref h0), (1, .int (iI ba)), (2, .int (iI ab)), (3, .int (iI a0)), (4, .int (iI bk))] 5 [] := by
    intro N
    induction N with
    | zero => intro a0 bk b1 f1 hi5_0 hi5_1 hi5_2 hN; exact absurd hN (Nat.not_lt_zero _)
    | succ N ihL5 =>
      intro a0 bk b1 f1 hi5_0 hi5_1 hi5_2 hN5
      have hbl := bgt_le (a0 := a0) (w := vw) (by omega) (by omega)
      refine v_iload_n fx 3 dX8_twoDimensions_5 rfl rfl ?_
      refine v_aload_n fx 0 dX8_twoDimensions_6 rfl rfl ?_
      refine v_get fx 0 9 inX8 k1005 dX8_twoDimensions_7 rfl rfl (by decide) rfl rfl rfl ?_
      refine v_icmp_ge fx 198 dX8_twoDimensions_10 (by decide) rfl (by omega) (by omega) (fun h_1 => ?_) (fun h_1 => ?_)
      ·
        exact v_vret fx [(h0, ob 8 [.ref xa, .ref xb, .ref xc, .ref xd, .ref xe, .ref xf, .ref xg, .int (iI vc), .int (iI vk), .int (iI vw), .ref xm, .ref xv, .int (iI vg), .ref xw, .int (iI b1), .int (iI vi), .ref xq, .int (iI ve), .int (iI vf), .int (iI vu), .int (iI vl), .ref xr, .ref xh, .ref xo, .ref xp, .int (iI vr), .int (iI va), .int (iI vt), .int (iI vm), .int (iI vd), .int (iI vx)]), (xw, aI g 72000 f1), (xv, aZ g 72000 fg), (xa, aI g 64 (lfT mW 64)), (xb, aI g 64 (lfT mB 64)), (xc, aI g 27 (lfT mWM 27)), (xd, aI g 27 (lfT mBM 27)), (xe, aI g 13 (lfT mBO 13))] [0, 1, 2, 3, 4, 5, 6, 7] hr dX8_twoDimensions_198 rfl rfl (nl rfl) (nl rfl) ⟨b1, f1, rfl, rfl, (by first | omega | rfl | assumption)⟩
      ·
        refine v_aload_n fx 0 dX8_twoDimensions_13 rfl rfl ?_
        refine v_aload_n fx 0 dX8_twoDimensions_14 rfl rfl ?_
        refine v_get fx 0 11 inX8 k1007 dX8_twoDimensions_15 rfl rfl (by decide) rfl rfl rfl ?_
        refine v_iload_n fx 1 dX8_twoDimensions_18 rfl rfl ?_
        refine v_iload_n fx 3 dX8_twoDimensions_19 rfl rfl ?_
        refine v_callV (As := [.ref xv, .int (iI ba), .int (iI a0)]) (rest := []) fx [0, 2] [1, 3, 4, 5, 6, 7] [(h0, ob 8 [.ref xa, .ref xb, .ref xc, .ref xd, .ref xe, .ref xf, .ref xg, .int (iI vc), .int (iI vk), .int (iI vw), .ref xm, .ref xv, .int (iI vg), .ref xw, .int (iI b1), .int (iI vi), .ref xq, .int (iI ve), .int (iI vf), .int (iI vu), .int (iI vl), .ref xr, .ref xh, .ref xo, .ref xp, .int (iI vr), .int (iI va), .int (iI vt), .int (iI vm), .int (iI vd), .int (iI vx)]), (xv, aZ g 72000 fg)] [(xw, aI g 72000 f1), (xa, aI g 64 (lfT mW 64)), (xb, aI g 64 (lfT mB 64)), (xc, aI g 27 (lfT mWM 27)), (xd, aI g 27 (lfT mBM 27)), (xe, aI g 13 (lfT mBO 13))] 3 0 (c_X8_change l g h0 xa xb xc xd xe xf xg xm xv xw xq xr xh xo xp vc vk vw vg b1 vi ve vf vu vl vr va vt vm vd vx xv 72000 fg ba a0 (by first | omega | decide | assumption) (by first | omega | decide | assumption) (by first | omega | decide | assumption)) dX8_twoDimensions_20 k1130 k1132 k28 k57 k1133 ykX8_change rfl rfl rfl rfl rfl rfl rfl rfl (nl rfl) ⟨nl rfl, nl rfl⟩ ⟨(nl rfl), (nl rfl)⟩ rfl (fun v9 w9 hu => ?_)
        obtain ⟨a1, rfl, rfl, u_2⟩ := hu
        refine v_is (wn := [(xw, aI g 72000 f1), (xa, aI g 64 (lfT mW 64)), (xb, aI g 64 (lfT mB 64)), (xc, aI g 27 (lfT mWM 27)), (xd, aI g 27 (lfT mBM 27)), (xe, aI g 13 (lfT mBO 13)), (h0, ob 8 [.ref xa, .ref xb, .ref xc, .ref xd, .ref xe, .ref xf, .ref xg, .int (iI vc), .int (iI vk), .int (iI vw), .ref xm, .ref xv, .int (iI vg), .ref xw, .int (iI b1), .int (iI vi), .ref xq, .int (iI ve), .int (iI vf), .int (iI vu), .int (iI vl), .ref xr, .ref xh, .ref xo, .ref xp, .int (iI vr), .int (iI va), .int (iI vt), .int (iI vm), .int (iI vd), .int (iI vx)]), (xv, aZ g 72000 fg)]) (cn := 0) (sn := 0) (sn2 := [.int (iI a1)]) rfl rfl rfl rfl ?_
        refine v_istore fx [(5, .int (iI a1)), (0, .ref h0), (1, .int (iI ba)), (2, .int (iI ab)), (3, .int (iI a0)), (4, .int (iI bk))] dX8_twoDimensions_23 (by decide) rfl rfl ?_
        refine v_aload_n fx 1 dX8_twoDimensions_25 rfl rfl ?_
        refine v_aload_n fx 1 dX8_twoDimensions_26 rfl rfl ?_
        refine v_get fx 6 11 inX8 k1007 dX8_twoDimensions_27 rfl rfl (by decide) rfl rfl rfl ?_
        refine v_iload_n fx 3 dX8_twoDimensions_30 rfl rfl ?_
        refine v_iload_n fx 4 dX8_twoDimensions_31 rfl rfl ?_
        refine v_iload fx 5 dX8_twoDimensions_32 rfl rfl ?_
        refine v_callV (As := [.ref xv, .int (iI ab), .int (iI a0), .int (iI bk)]) (rest := []) fx [6, 7] [0, 1, 2, 3, 4, 5] [(h0, ob 8 [.ref xa, .ref xb, .ref xc, .ref xd, .ref xe, .ref xf, .ref xg, .int (iI vc), .int (iI vk), .int (iI vw), .ref xm, .ref xv, .int (iI vg), .ref xw, .int (iI b1), .int (iI vi), .ref xq, .int (iI ve), .int (iI vf), .int (iI vu), .int (iI vl), .ref xr, .ref xh, .ref xo, .ref xp, .int (iI vr), .int (iI va), .int (iI vt), .int (iI vm), .int (iI vd), .int (iI vx)]), (xv, aZ g 72000 fg)] [(xw, aI g 72000 f1), (xa, aI g 64 (lfT mW 64)), (xb, aI g 64 (lfT mB 64)), (xc, aI g 27 (lfT mWM 27)), (xd, aI g 27 (lfT mBM 27)), (xe, aI g 13 (lfT mBO 13))] 4 0 (c_X8_b1 l g h0 xa xb xc xd xe xf xg xm xv xw xq xr xh xo xp vc vk vw vg b1 vi ve vf vu vl vr va vt vm vd vx xv 72000 fg ab a0 bk (by first | omega | decide | assumption) (by first | omega | decide | assumption) (by first | omega | decide | assumption) (by first | omega | decide | assumption)) dX8_twoDimensions_34 k1134 k1136 k29 k57 k1137 ykX8_b1 rfl rfl rfl rfl rfl rfl rfl rfl (nl rfl) ⟨nl rfl, nl rfl⟩ ⟨(nl rfl), (nl rfl)⟩ rfl (fun v9 w9 hu => ?_)
        obtain ⟨q1, rfl, rfl, u_3⟩ := hu
        refine v_is (wn := [(xw, aI g 72000 f1), (xa, aI g 64 (lfT mW 64)), (xb, aI g 64 (lfT mB 64)), (xc, aI g 27 (lfT mWM 27)), (xd, aI g 27 (lfT mBM 27)), (xe, aI g 13 (lfT mBO 13)), (h0, ob 8 [.ref xa, .ref xb, .ref xc, .ref xd, .ref xe, .ref xf, .ref xg, .int (iI vc), .int (iI vk), .int (iI vw), .ref xm, .ref xv, .int (iI vg), .ref xw, .int (iI b1), .int (iI vi), .ref xq, .int (iI ve), .int (iI vf), .int (iI vu), .int (iI vl), .ref xr, .ref xh, .ref xo, .ref xp, .int (iI vr), .int (iI va), .int (iI vt), .int (iI vm), .int (iI vd), .int (iI vx)]), (xv, aZ g 72000 fg)]) (cn := 0) (sn := 0) (sn2 := [.int (iI q1)]) rfl rfl rfl rfl ?_
        refine v_istore fx [(6, .int (iI q1)), (5, .int (iI a1)), (0, .ref h0), (1, .int (iI ba)), (2, .int (iI ab)), (3, .int (iI a0)), (4, .int (iI bk))] dX8_twoDimensions_37 (by decide) rfl rfl ?_
        refine v_iload fx 1 dX8_twoDimensions_39 rfl rfl ?_
        refine v_iload fx 0 dX8_twoDimensions_41 rfl rfl ?_
        refine v_isub fx (a1 - q1) dX8_twoDimensions_43 (by rfl) rfl ?_
        refine v_istore fx [(7, .int (iI (a1 - q1))), (6, .int (iI q1)), (5, .int (iI a1)), (0, .ref h0), (1, .int (iI ba)), (2, .int (iI ab)), (3, .int (iI a0)), (4, .int (iI bk))] dX8_twoDimensions_44 (by decide) rfl rfl ?_
        refine v_aload_n fx 3 dX8_twoDimensions_46 rfl rfl ?_
        refine v_aload_n fx 3 dX8_twoDimensions_47 rfl rfl ?_
        refine v_get fx 6 11 inX8 k1007 dX8_twoDimensions_48 rfl rfl (by decide) rfl rfl rfl ?_
        refine v_iload_n fx 5 dX8_twoDimensions_51 rfl rfl ?_
        refine v_iload fx 1 dX8_twoDimensions_52 rfl rfl ?_
        refine v_callV (As := [.ref xv, .int (iI ab), .int (iI q1)]) (rest := []) fx [6, 7] [0, 1, 2, 3, 4, 5] [(h0, ob 8 [.ref xa, .ref xb, .ref xc, .ref xd, .ref xe, .ref xf, .ref xg, .int (iI vc), .int (iI vk), .int (iI vw), .ref xm, .ref xv, .int (iI vg), .ref xw, .int (iI b1), .int (iI vi), .ref xq, .int (iI ve), .int (iI vf), .int (iI vu), .int (iI vl), .ref xr, .ref xh, .ref xo, .ref xp, .int (iI vr), .int (iI va), .int (iI vt), .int (iI vm), .int (iI vd), .int (iI vx)]), (xv, aZ g 72000 fg)] [(xw, aI g 72000 f1), (xa, aI g 64 (lfT mW 64)), (xb, aI g 64 (lfT mB 64)), (xc, aI g 27 (lfT mWM 27)), (xd, aI g 27 (lfT mBM 27)), (xe, aI g 13 (lfT mBO 13))] 3 0 (c_X8_b2 l g h0 xa xb xc xd xe xf xg xm xv xw xq xr xh xo xp vc vk vw vg b1 vi ve vf vu vl vr va vt vm vd vx xv 72000 fg ab q1 (by first | omega | decide | assumption) (by first | omega | decide | assumption) (by first | omega | decide | assumption)) dX8_twoDimensions_54 k1138 k1140 k30 k57 k1141 ykX8_b2 rfl rfl rfl rfl rfl rfl rfl rfl (nl rfl) ⟨nl rfl, nl rfl⟩ ⟨(nl rfl), (nl rfl)⟩ rfl (fun v9 w9 hu => ?_)
        obtain ⟨q2, rfl, rfl, u_4⟩ := hu
        refine v_is (wn := [(xw, aI g 72000 f1), (xa, aI g 64 (lfT mW 64)), (xb, aI g 64 (lfT mB 64)), (xc, aI g 27 (lfT mWM 27)), (xd, aI g 27 (lfT mBM 27)), (xe, aI g 13 (lfT mBO 13)), (h0, ob 8 [.ref xa, .ref xb, .ref xc, .ref xd, .ref xe, .ref xf, .ref xg, .int (iI vc), .int (iI vk), .int (iI vw), .ref xm, .ref xv, .int (iI vg), .ref xw, .int (iI b1), .int (iI vi), .ref xq, .int (iI ve), .int (iI vf), .int (iI vu), .int (iI vl), .ref xr, .ref xh, .ref xo, .ref xp, .int (iI vr), .int (iI va), .int (iI vt), .int (iI vm), .int (iI vd), .int (iI vx)]), (xv, aZ g 72000 fg)]) (cn := 0) (sn := 0) (sn2 := [.int (iI q2)]) rfl rfl rfl rfl ?_
        refine v_iload fx 2 dX8_twoDimensions_57 rfl rfl ?_
        refine v_icmp_ge fx 83 dX8_twoDimensions_59 (by decide) rfl (by omega) (by omega) (fun h_5 => ?_) (fun h_5 => ?_)
        ·
          refine v_iload fx 0 dX8_twoDimensions_83 rfl rfl ?_
          refine v_bipush fx dX8_twoDimensions_85 (by decide +kernel) rfl ?_
          refine v_icmp_lt fx 120 dX8_twoDimensions_87 (by decide) rfl (by omega) (by omega) (fun h_6 => ?_) (fun h_6 => ?_)
          ·
            refine v_iload fx 2 dX8_twoDimensions_120 rfl rfl ?_
            refine v_aload_n fx 3 dX8_twoDimensions_122 rfl rfl ?_
            refine v_get fx 6 9 inX8 k1005 dX8_twoDimensions_123 rfl rfl (by decide) rfl rfl rfl ?_
            refine v_icmp_ge fx 143 dX8_twoDimensions_126 (by decide) rfl (by omega) (by omega) (fun h_7 => ?_) (fun h_7 => ?_)
            ·
              have ha2 : (a1 < vw ∧ vw ≤ vw) ∨ (a1 = vw ∧ vw = vw) := Or.inr ⟨by omega, rfl⟩
              refine v_aload_n fx 3 dX8_twoDimensions_143 rfl rfl ?_
              refine v_get fx 6 9 inX8 k1005 dX8_twoDimensions_144 rfl rfl (by decide) rfl rfl rfl ?_
              refine v_istore fx [(8, .int (iI vw)), (7, .int (iI (a1 - q1))), (6, .int (iI q1)), (5, .int (iI a1)), (0, .ref h0), (1, .int (iI ba)), (2, .int (iI ab)), (3, .int (iI a0)), (4, .int (iI bk))] dX8_twoDimensions_147 (by decide) rfl rfl ?_
              refine v_aload_n fx 4 dX8_twoDimensions_149 rfl rfl ?_
              refine v_iconst fx dX8_twoDimensions_150 rfl ?_
              refine v_iconst fx dX8_twoDimensions_151 rfl ?_
              refine v_callV (As := [.int (iI 1), .int (iI 3)]) (rest := []) fx [6, 0] [1, 2, 3, 4, 5, 7] [(h0, ob 8 [.ref xa, .ref xb, .ref xc, .ref xd, .ref xe, .ref xf, .ref xg, .int (iI vc), .int (iI vk), .int (iI vw), .ref xm, .ref xv, .int (iI vg), .ref xw, .int (iI b1), .int (iI vi), .ref xq, .int (iI ve), .int (iI vf), .int (iI vu), .int (iI vl), .ref xr, .ref xh, .ref xo, .ref xp, .int (iI vr), .int (iI va), .int (iI vt), .int (iI vm), .int (iI vd), .int (iI vx)]), (xw, aI g 72000 f1)] [(xa, aI g 64 (lfT mW 64)), (xb, aI g 64 (lfT mB 64)), (xc, aI g 27 (lfT mWM 27)), (xd, aI g 27 (lfT mBM 27)), (xe, aI g 13 (lfT mBO 13)), (xv, aZ g 72000 fg)] 2 0 (c_X8_number l g h0 xa xb xc xd xe xf xg xm xv xw xq xr xh xo xp vc vk vw vg b1 vi ve vf vu vl vr va vt vm vd vx f1 (iI 1) 3 (by first | omega | decide | assumption) (by first | omega | decide | assumption)) dX8_twoDimensions_152 k1106 k1108 k22 k57 k1109 ykX8_number rfl rfl rfl rfl rfl rfl rfl rfl (nl rfl) ⟨nl rfl, nl rfl⟩ ⟨(nl rfl), (nl rfl)⟩ rfl (fun v9 w9 hu => ?_)
              obtain ⟨cm, f2_8, rfl, rfl, u_9⟩ := hu
              refine v_is (wn := [(xa, aI g 64 (lfT mW 64)), (xb, aI g 64 (lfT mB 64)), (xc, aI g 27 (lfT mWM 27)), (xd, aI g 27 (lfT mBM 27)), (xe, aI g 13 (lfT mBO 13)), (xv, aZ g 72000 fg), (h0, ob 8 [.ref xa, .ref xb, .ref xc, .ref xd, .ref xe, .ref xf, .ref xg, .int (iI vc), .int (iI vk), .int (iI vw), .ref xm, .ref xv, .int (iI vg), .ref xw, .int (iI cm), .int (iI vi), .ref xq, .int (iI ve), .int (iI vf), .int (iI vu), .int (iI vl), .ref xr, .ref xh, .ref xo, .ref xp, .int (iI vr), .int (iI va), .int (iI vt), .int (iI vm), .int (iI vd), .int (iI vx)]), (xw, aI g 72000 f2_8)]) (cn := 0) (sn := 0) (sn2 := []) rfl rfl rfl rfl ?_
              refine v_aload_n fx 4 dX8_twoDimensions_155 rfl rfl ?_
              refine v_iload fx 3 dX8_twoDimensions_156 rfl rfl ?_
              refine v_iload_n fx 7 dX8_twoDimensions_158 rfl rfl ?_
              refine v_if_ge fx 166 dX8_twoDimensions_159 (by decide) rfl (by omega) (fun h_10 => ?_) (fun h_10 => ?_)
              ·
                have hrs : (a0 < 0 ∧ a0 = 0) ∨ (0 ≤ a0 ∧ a0 = a0) := Or.inr ⟨h_10, rfl⟩
                refine v_iload_n fx 7 dX8_twoDimensions_166 rfl rfl ?_
                refine v_isub fx (a1 - a0) dX8_twoDimensions_167 (by rfl) rfl ?_
                refine v_iload fx 8 dX8_twoDimensions_168 rfl rfl ?_
                refine v_callV (As := [.int (iI (a1 - a0)), .int (iI bk)]) (rest := []) fx [6, 7, 0, 1, 2, 3, 4] [5] [(h0, ob 8 [.ref xa, .ref xb, .ref xc, .ref xd, .ref xe, .ref xf, .ref xg, .int (iI vc), .int (iI vk), .int (iI vw), .ref xm, .ref xv, .int (iI vg), .ref xw, .int (iI cm), .int (iI vi), .ref xq, .int (iI ve), .int (iI vf), .int (iI vu), .int (iI vl), .ref xr, .ref xh, .ref xo, .ref xp, .int (iI vr), .int (iI va), .int (iI vt), .int (iI vm), .int (iI vd), .int (iI vx)]), (xw, aI g 72000 f2_8), (xa, aI g 64 (lfT mW 64)), (xb, aI g 64 (lfT mB 64)), (xc, aI g 27 (lfT mWM 27)), (xd, aI g 27 (lfT mBM 27)), (xe, aI g 13 (lfT mBO 13))] [(xv, aZ g 72000 fg)] 2 0 (c_X8_run l g h0 xa xb xc xd xe xf xg xm xv xw xq xr xh xo xp vc vk vw vg cm vi ve vf vu vl vr va vt vm vd vx f2_8 (a1 - a0) bk (by first | omega | decide | assumption) (by first | omega | decide | assumption) (by first | omega | decide | assumption) (by first | omega | decide | assumption)) dX8_twoDimensions_170 k1118 k1120 k25 k57 k1121 ykX8_run rfl rfl rfl rfl rfl rfl rfl rfl (nl rfl) ⟨nl rfl, nl rfl⟩ ⟨(nl rfl), (nl rfl)⟩ rfl (fun v9 w9 hu => ?_)
                obtain ⟨cn1, f2_11, rfl, rfl, u_12, u_13⟩ := hu
                refine v_is (wn := [(xv, aZ g 72000 fg), (h0, ob 8 [.ref xa, .ref xb, .ref xc, .ref xd, .ref xe, .ref xf, .ref xg, .int (iI vc), .int (iI vk), .int (iI vw), .ref xm, .ref xv, .int (iI vg), .ref xw, .int (iI cn1), .int (iI vi), .ref xq, .int (iI ve), .int (iI vf), .int (iI vu), .int (iI vl), .ref xr, .ref xh, .ref xo, .ref xp, .int (iI vr), .int (iI va), .int (iI vt), .int (iI vm), .int (iI vd), .int (iI vx)]), (xw, aI g 72000 f2_11), (xa, aI g 64 (lfT mW 64)), (xb, aI g 64 (lfT mB 64)), (xc, aI g 27 (lfT mWM 27)), (xd, aI g 27 (lfT mBM 27)), (xe, aI g 13 (lfT mBO 13))]) (cn := 0) (sn := 0) (sn2 := []) rfl rfl rfl rfl ?_
                have hbr := bgt_run (k1 := cn1 - cm) (bk := bk) (w := vw) (a1 := a1) (a0 := a0) (by omega) hrs (by omega) (by omega) (by omega)
                refine v_aload_n fx 4 dX8_twoDimensions_173 rfl rfl ?_
                refine v_iload fx 0 dX8_twoDimensions_174 rfl rfl ?_
                refine v_iload fx 3 dX8_twoDimensions_176 rfl rfl ?_
                refine v_isub fx (vw - a1) dX8_twoDimensions_178 (by rfl) rfl ?_
                refine v_iload fx 8 dX8_twoDimensions_179 rfl rfl ?_
                refine v_if_ne fx 188 dX8_twoDimensions_181 (by decide) rfl (by omega) (fun h_14 => ?_) (fun h_14 => ?_)
                ·
                  refine v_iconst fx dX8_twoDimensions_188 rfl ?_
                  refine v_callV (As := [.int (iI (vw - a1)), .int (iI 0)]) (rest := []) fx [1, 2, 3, 4, 5, 6, 7] [0] [(h0, ob 8 [.ref xa, .ref xb, .ref xc, .ref xd, .ref xe, .ref xf, .ref xg, .int (iI vc), .int (iI vk), .int (iI vw), .ref xm, .ref xv, .int (iI vg), .ref xw, .int (iI cn1), .int (iI vi), .ref xq, .int (iI ve), .int (iI vf), .int (iI vu), .int (iI vl), .ref xr, .ref xh, .ref xo, .ref xp, .int (iI vr), .int (iI va), .int (iI vt), .int (iI vm), .int (iI vd), .int (iI vx)]), (xw, aI g 72000 f2_11), (xa, aI g 64 (lfT mW 64)), (xb, aI g 64 (lfT mB 64)), (xc, aI g 27 (lfT mWM 27)), (xd, aI g 27 (lfT mBM 27)), (xe, aI g 13 (lfT mBO 13))] [(xv, aZ g 72000 fg)] 2 0 (c_X8_run l g h0 xa xb xc xd xe xf xg xm xv xw xq xr xh xo xp vc vk vw vg cn1 vi ve vf vu vl vr va vt vm vd vx f2_11 (vw - a1) 0 (by first | omega | decide | assumption) (by first | omega | decide | assumption) (by first | omega | decide | assumption) (by first | omega | decide | assumption)) dX8_twoDimensions_189 k1118 k1120 k25 k57 k1121 ykX8_run rfl rfl rfl rfl rfl rfl rfl rfl (nl rfl) ⟨nl rfl, nl rfl⟩ ⟨(nl rfl), (nl rfl)⟩ rfl (fun v9 w9 hu => ?_)
                  obtain ⟨cn2, f2_15, rfl, rfl, u_16, u_17⟩ := hu
                  refine v_is (wn := [(xv, aZ g 72000 fg), (h0, ob 8 [.ref xa, .ref xb, .ref xc, .ref xd, .ref xe, .ref xf, .ref xg, .int (iI vc), .int (iI vk), .int (iI vw), .ref xm, .ref xv, .int (iI vg), .ref xw, .int (iI cn2), .int (iI vi), .ref xq, .int (iI ve), .int (iI vf), .int (iI vu), .int (iI vl), .ref xr, .ref xh, .ref xo, .ref xp, .int (iI vr), .int (iI va), .int (iI vt), .int (iI vm), .int (iI vd), .int (iI vx)]), (xw, aI g 72000 f2_15), (xa, aI g 64 (lfT mW 64)), (xb, aI g 64 (lfT mB 64)), (xc, aI g 27 (lfT mWM 27)), (xd, aI g 27 (lfT mBM 27)), (xe, aI g 13 (lfT mBO 13))]) (cn := 0) (sn := 0) (sn2 := []) rfl rfl rfl rfl ?_
                  have hbt := bgt_hor (k1 := cn1 - cm) (k2 := cn2 - cn1) (bk := bk) (a1 := a1) (w := vw) (a0 := a0) (by omega) hrs (by omega) ha2 (by omega) (by omega) (by omega)
                  refine v_iload fx 0 dX8_twoDimensions_192 rfl rfl ?_
                  refine v_istore_n fx [(3, .int (iI vw)), (8, .int (iI vw)), (7, .int (iI (a1 - q1))), (6, .int (iI q1)), (5, .int (iI a1)), (0, .ref h0), (1, .int (iI ba)), (2, .int (iI ab)), (4, .int (iI bk))] dX8_twoDimensions_194 (by decide) rfl rfl ?_
                  refine v_goto fx 5 dX8_twoDimensions_195 (by decide) ?_
                  refine v_ws [1, 2, 0, 3, 4, 5, 6, 7] [(h0, ob 8 [.ref xa, .ref xb, .ref xc, .ref xd, .ref xe, .ref xf, .ref xg, .int (iI vc), .int (iI vk), .int (iI vw), .ref xm, .ref xv, .int (iI vg), .ref xw, .int (iI cn2), .int (iI vi), .ref xq, .int (iI ve), .int (iI vf), .int (iI vu), .int (iI vl), .ref xr, .ref xh, .ref xo, .ref xp, .int (iI vr), .int (iI va), .int (iI vt), .int (iI vm), .int (iI vd), .int (iI vx)]), (xw, aI g 72000 f2_15), (xv, aZ g 72000 fg), (xa, aI g 64 (lfT mW 64)), (xb, aI g 64 (lfT mB 64)), (xc, aI g 27 (lfT mWM 27)), (xd, aI g 27 (lfT mBM 27)), (xe, aI g 13 (lfT mBO 13))] rfl rfl ?_
                  refine v_lv [5, 6, 7, 0, 8] [(0, .ref h0), (1, .int (iI ba)), (2, .int (iI ab)), (3, .int (iI vw)), (4, .int (iI bk))] rfl ?_
                  exact ihL5 vw bk cn2 f2_15 (by omega) (by omega) (by omega) (by omega)
                ·
                  refine v_iconst fx dX8_twoDimensions_184 rfl ?_
                  refine v_goto fx 189 dX8_twoDimensions_185 (by decide) ?_
                  refine v_callV (As := [.int (iI (vw - a1)), .int (iI 1)]) (rest := []) fx [1, 2, 3, 4, 5, 6, 7] [0] [(h0, ob 8 [.ref xa, .ref xb, .ref xc, .ref xd, .ref xe, .ref xf, .ref xg, .int (iI vc), .int (iI vk), .int (iI vw), .ref xm, .ref xv, .int (iI vg), .ref xw, .int (iI cn1), .int (iI vi), .ref xq, .int (iI ve), .int (iI vf), .int (iI vu), .int (iI vl), .ref xr, .ref xh, .ref xo, .ref xp, .int (iI vr), .int (iI va), .int (iI vt), .int (iI vm), .int (iI vd), .int (iI vx)]), (xw, aI g 72000 f2_11), (xa, aI g 64 (lfT mW 64)), (xb, aI g 64 (lfT mB 64)), (xc, aI g 27 (lfT mWM 27)), (xd, aI g 27 (lfT mBM 27)), (xe, aI g 13 (lfT mBO 13))] [(xv, aZ g 72000 fg)] 2 0 (c_X8_run l g h0 xa xb xc xd xe xf xg xm xv xw xq xr xh xo xp vc vk vw vg cn1 vi ve vf vu vl vr va vt vm vd vx f2_11 (vw - a1) 1 (by first | omega | decide | assumption) (by first | omega | decide | assumption) (by first | omega | decide | assumption) (by first | omega | decide | assumption)) dX8_twoDimensions_189 k1118 k1120 k25 k57 k1121 ykX8_run rfl rfl rfl rfl rfl rfl rfl rfl (nl rfl) ⟨nl rfl, nl rfl⟩ ⟨(nl rfl), (nl rfl)⟩ rfl (fun v9 w9 hu => ?_)
                  obtain ⟨cn2, f2_18, rfl, rfl, u_19, u_20⟩ := hu
                  refine v_is (wn := [(xv, aZ g 72000 fg), (h0, ob 8 [.ref xa, .ref xb, .ref xc, .ref xd, .ref xe, .ref xf, .ref xg, .int (iI vc), .int (iI vk), .int (iI vw), .ref xm, .ref xv, .int (iI vg), .ref xw, .int (iI cn2), .int (iI vi), .ref xq, .int (iI ve), .int (iI vf), .int (iI vu), .int (iI vl), .ref xr, .ref xh, .ref xo, .ref xp, .int (iI vr), .int (iI va), .int (iI vt), .int (iI vm), .int (iI vd), .int (iI vx)]), (xw, aI g 72000 f2_18), (xa, aI g 64 (lfT mW 64)), (xb, aI g 64 (lfT mB 64)), (xc, aI g 27 (lfT mWM 27)), (xd, aI g 27 (lfT mBM 27)), (xe, aI g 13 (lfT mBO 13))]) (cn := 0) (sn := 0) (sn2 := []) rfl rfl rfl rfl ?_
                  have hbt := bgt_hor (k1 := cn1 - cm) (k2 := cn2 - cn1) (bk := bk) (a1 := a1) (w := vw) (a0 := a0) (by omega) hrs (by omega) ha2 (by omega) (by omega) (by omega)
                  refine v_iload fx 0 dX8_twoDimensions_192 rfl rfl ?_
                  refine v_istore_n fx [(3, .int (iI vw)), (8, .int (iI vw)), (7, .int (iI (a1 - q1))), (6, .int (iI q1)), (5, .int (iI a1)), (0, .ref h0), (1, .int (iI ba)), (2, .int (iI ab)), (4, .int (iI bk))] dX8_twoDimensions_194 (by decide) rfl rfl ?_
                  refine v_goto fx 5 dX8_twoDimensions_195 (by decide) ?_
                  refine v_ws [1, 2, 0, 3, 4, 5, 6, 7] [(h0, ob 8 [.ref xa, .ref xb, .ref xc, .ref xd, .ref xe, .ref xf, .ref xg, .int (iI vc), .int (iI vk), .int (iI vw), .ref xm, .ref xv, .int (iI vg), .ref xw, .int (iI cn2), .int (iI vi), .ref xq, .int (iI ve), .int (iI vf), .int (iI vu), .int (iI vl), .ref xr, .ref xh, .ref xo, .ref xp, .int (iI vr), .int (iI va), .int (iI vt), .int (iI vm), .int (iI vd), .int (iI vx)]), (xw, aI g 72000 f2_18), (xv, aZ g 72000 fg), (xa, aI g 64 (lfT mW 64)), (xb, aI g 64 (lfT mB 64)), (xc, aI g 27 (lfT mWM 27)), (xd, aI g 27 (lfT mBM 27)), (xe, aI g 13 (lfT mBO 13))] rfl rfl ?_
                  refine v_lv [5, 6, 7, 0, 8] [(0, .ref h0), (1, .int (iI ba)), (2, .int (iI ab)), (3, .int (iI vw)), (4, .int (iI bk))] rfl ?_
                  exact ihL5 vw bk cn2 f2_18 (by omega) (by omega) (by omega) (by omega)
              ·
                have hrs : (a0 < 0 ∧ (0 : Int) = 0) ∨ (0 ≤ a0 ∧ (0 : Int) = a0) := Or.inl ⟨h_10, rfl⟩
                refine v_iconst fx dX8_twoDimensions_162 rfl ?_
                refine v_goto fx 167 dX8_twoDimensions_163 (by decide) ?_
                refine v_isub fx (a1 - 0) dX8_twoDimensions_167 (by rfl) rfl ?_
                refine v_iload fx 8 dX8_twoDimensions_168 rfl rfl ?_
                refine v_callV (As := [.int (iI (a1 - 0)), .int (iI bk)]) (rest := []) fx [6, 7, 0, 1, 2, 3, 4] [5] [(h0, ob 8 [.ref xa, .ref xb, .ref xc, .ref xd, .ref xe, .ref xf, .ref xg, .int (iI vc), .int (iI vk), .int (iI vw), .ref xm, .ref xv, .int (iI vg), .ref xw, .int (iI cm), .int (iI vi), .ref xq, .int (iI ve), .int (iI vf), .int (iI vu), .int (iI vl), .ref xr, .ref xh, .ref xo, .ref xp, .int (iI vr), .int (iI va), .int (iI vt), .int (iI vm), .int (iI vd), .int (iI vx)]), (xw, aI g 72000 f2_8), (xa, aI g 64 (lfT mW 64)), (xb, aI g 64 (lfT mB 64)), (xc, aI g 27 (lfT mWM 27)), (xd, aI g 27 (lfT mBM 27)), (xe, aI g 13 (lfT mBO 13))] [(xv, aZ g 72000 fg)] 2 0 (c_X8_run l g h0 xa xb xc xd xe xf xg xm xv xw xq xr xh xo xp vc vk vw vg cm vi ve vf vu vl vr va vt vm vd vx f2_8 (a1 - 0) bk (by first | omega | decide | assumption) (by first | omega | decide | assumption) (by first | omega | decide | assumption) (by first | omega | decide | assumption)) dX8_twoDimensions_170 k1118 k1120 k25 k57 k1121 ykX8_run rfl rfl rfl rfl rfl rfl rfl rfl (nl rfl) ⟨nl rfl, nl rfl⟩ ⟨(nl rfl), (nl rfl)⟩ rfl (fun v9 w9 hu => ?_)
                obtain ⟨cn1, f2_21, rfl, rfl, u_22, u_23⟩ := hu
                refine v_is (wn := [(xv, aZ g 72000 fg), (h0, ob 8 [.ref xa, .ref xb, .ref xc, .ref xd, .ref xe, .ref xf, .ref xg, .int (iI vc), .int (iI vk), .int (iI vw), .ref xm, .ref xv, .int (iI vg), .ref xw, .int (iI cn1), .int (iI vi), .ref xq, .int (iI ve), .int (iI vf), .int (iI vu), .int (iI vl), .ref xr, .ref xh, .ref xo, .ref xp, .int (iI vr), .int (iI va), .int (iI vt), .int (iI vm), .int (iI vd), .int (iI vx)]), (xw, aI g 72000 f2_21), (xa, aI g 64 (lfT mW 64)), (xb, aI g 64 (lfT mB 64)), (xc, aI g 27 (lfT mWM 27)), (xd, aI g 27 (lfT mBM 27)), (xe, aI g 13 (lfT mBO 13))]) (cn := 0) (sn := 0) (sn2 := []) rfl rfl rfl rfl ?_
                have hbr := bgt_run (k1 := cn1 - cm) (bk := bk) (w := vw) (a1 := a1) (a0 := a0) (by omega) hrs (by omega) (by omega) (by omega)
                refine v_aload_n fx 4 dX8_twoDimensions_173 rfl rfl ?_
                refine v_iload fx 0 dX8_twoDimensions_174 rfl rfl ?_
                refine v_iload fx 3 dX8_twoDimensions_176 rfl rfl ?_
                refine v_isub fx (vw - a1) dX8_twoDimensions_178 (by rfl) rfl ?_
                refine v_iload fx 8 dX8_twoDimensions_179 rfl rfl ?_
                refine v_if_ne fx 188 dX8_twoDimensions_181 (by decide) rfl (by omega) (fun h_24 => ?_) (fun h_24 => ?_)
                ·
                  refine v_iconst fx dX8_twoDimensions_188 rfl ?_
                  refine v_callV (As := [.int (iI (vw - a1)), .int (iI 0)]) (rest := []) fx [1, 2, 3, 4, 5, 6, 7] [0] [(h0, ob 8 [.ref xa, .ref xb, .ref xc, .ref xd, .ref xe, .ref xf, .ref xg, .int (iI vc), .int (iI vk), .int (iI vw), .ref xm, .ref xv, .int (iI vg), .ref xw, .int (iI cn1), .int (iI vi), .ref xq, .int (iI ve), .int (iI vf), .int (iI vu), .int (iI vl), .ref xr, .ref xh, .ref xo, .ref xp, .int (iI vr), .int (iI va), .int (iI vt), .int (iI vm), .int (iI vd), .int (iI vx)]), (xw, aI g 72000 f2_21), (xa, aI g 64 (lfT mW 64)), (xb, aI g 64 (lfT mB 64)), (xc, aI g 27 (lfT mWM 27)), (xd, aI g 27 (lfT mBM 27)), (xe, aI g 13 (lfT mBO 13))] [(xv, aZ g 72000 fg)] 2 0 (c_X8_run l g h0 xa xb xc xd xe xf xg xm xv xw xq xr xh xo xp vc vk vw vg cn1 vi ve vf vu vl vr va vt vm vd vx f2_21 (vw - a1) 0 (by first | omega | decide | assumption) (by first | omega | decide | assumption) (by first | omega | decide | assumption) (by first | omega | decide | assumption)) dX8_twoDimensions_189 k1118 k1120 k25 k57 k1121 ykX8_run rfl rfl rfl rfl rfl rfl rfl rfl (nl rfl) ⟨nl rfl, nl rfl⟩ ⟨(nl rfl), (nl rfl)⟩ rfl (fun v9 w9 hu => ?_)
                  obtain ⟨cn2, f2_25, rfl, rfl, u_26, u_27⟩ := hu
                  refine v_is (wn := [(xv, aZ g 72000 fg), (h0, ob 8 [.ref xa, .ref xb, .ref xc, .ref xd, .ref xe, .ref xf, .ref xg, .int (iI vc), .int (iI vk), .int (iI vw), .ref xm, .ref xv, .int (iI vg), .ref xw, .int (iI cn2), .int (iI vi), .ref xq, .int (iI ve), .int (iI vf), .int (iI vu), .int (iI vl), .ref xr, .ref xh, .ref xo, .ref xp, .int (iI vr), .int (iI va), .int (iI vt), .int (iI vm), .int (iI vd), .int (iI vx)]), (xw, aI g 72000 f2_25), (xa, aI g 64 (lfT mW 64)), (xb, aI g 64 (lfT mB 64)), (xc, aI g 27 (lfT mWM 27)), (xd, aI g 27 (lfT mBM 27)), (xe, aI g 13 (lfT mBO 13))]) (cn := 0) (sn := 0) (sn2 := []) rfl rfl rfl rfl ?_
                  have hbt := bgt_hor (k1 := cn1 - cm) (k2 := cn2 - cn1) (bk := bk) (a1 := a1) (w := vw) (a0 := a0) (by omega) hrs (by omega) ha2 (by omega) (by omega) (by omega)
                  refine v_iload fx 0 dX8_twoDimensions_192 rfl rfl ?_
                  refine v_istore_n fx [(3, .int (iI vw)), (8, .int (iI vw)), (7, .int (iI (a1 - q1))), (6, .int (iI q1)), (5, .int (iI a1)), (0, .ref h0), (1, .int (iI ba)), (2, .int (iI ab)), (4, .int (iI bk))] dX8_twoDimensions_194 (by decide) rfl rfl ?_
                  refine v_goto fx 5 dX8_twoDimensions_195 (by decide) ?_
                  refine v_ws [1, 2, 0, 3, 4, 5, 6, 7] [(h0, ob 8 [.ref xa, .ref xb, .ref xc, .ref xd, .ref xe, .ref xf, .ref xg, .int (iI vc), .int (iI vk), .int (iI vw), .ref xm, .ref xv, .int (iI vg), .ref xw, .int (iI cn2), .int (iI vi), .ref xq, .int (iI ve), .int (iI vf), .int (iI vu), .int (iI vl), .ref xr, .ref xh, .ref xo, .ref xp, .int (iI vr), .int (iI va), .int (iI vt), .int (iI vm), .int (iI vd), .int (iI vx)]), (xw, aI g 72000 f2_25), (xv, aZ g 72000 fg), (xa, aI g 64 (lfT mW 64)), (xb, aI g 64 (lfT mB 64)), (xc, aI g 27 (lfT mWM 27)), (xd, aI g 27 (lfT mBM 27)), (xe, aI g 13 (lfT mBO 13))] rfl rfl ?_
                  refine v_lv [5, 6, 7, 0, 8] [(0, .ref h0), (1, .int (iI ba)), (2, .int (iI ab)), (3, .int (iI vw)), (4, .int (iI bk))] rfl ?_
                  exact ihL5 vw bk cn2 f2_25 (by omega) (by omega) (by omega) (by omega)
                ·
                  refine v_iconst fx dX8_twoDimensions_184 rfl ?_
                  refine v_goto fx 189 dX8_twoDimensions_185 (by decide) ?_
                  refine v_callV (As := [.int (iI (vw - a1)), .int (iI 1)]) (rest := []) fx [1, 2, 3, 4, 5, 6, 7] [0] [(h0, ob 8 [.ref xa, .ref xb, .ref xc, .ref xd, .ref xe, .ref xf, .ref xg, .int (iI vc), .int (iI vk), .int (iI vw), .ref xm, .ref xv, .int (iI vg), .ref xw, .int (iI cn1), .int (iI vi), .ref xq, .int (iI ve), .int (iI vf), .int (iI vu), .int (iI vl), .ref xr, .ref xh, .ref xo, .ref xp, .int (iI vr), .int (iI va), .int (iI vt), .int (iI vm), .int (iI vd), .int (iI vx)]), (xw, aI g 72000 f2_21), (xa, aI g 64 (lfT mW 64)), (xb, aI g 64 (lfT mB 64)), (xc, aI g 27 (lfT mWM 27)), (xd, aI g 27 (lfT mBM 27)), (xe, aI g 13 (lfT mBO 13))] [(xv, aZ g 72000 fg)] 2 0 (c_X8_run l g h0 xa xb xc xd xe xf xg xm xv xw xq xr xh xo xp vc vk vw vg cn1 vi ve vf vu vl vr va vt vm vd vx f2_21 (vw - a1) 1 (by first | omega | decide | assumption) (by first | omega | decide | assumption) (by first | omega | decide | assumption) (by first | omega | decide | assumption)) dX8_twoDimensions_189 k1118 k1120 k25 k57 k1121 ykX8_run rfl rfl rfl rfl rfl rfl rfl rfl (nl rfl) ⟨nl rfl, nl rfl⟩ ⟨(nl rfl), (nl rfl)⟩ rfl (fun v9 w9 hu => ?_)
                  obtain ⟨cn2, f2_28, rfl, rfl, u_29, u_30⟩ := hu
                  refine v_is (wn := [(xv, aZ g 72000 fg), (h0, ob 8 [.ref xa, .ref xb, .ref xc, .ref xd, .ref xe, .ref xf, .ref xg, .int (iI vc), .int (iI vk), .int (iI vw), .ref xm, .ref xv, .int (iI vg), .ref xw, .int (iI cn2), .int (iI vi), .ref xq, .int (iI ve), .int (iI vf), .int (iI vu), .int (iI vl), .ref xr, .ref xh, .ref xo, .ref xp, .int (iI vr), .int (iI va), .int (iI vt), .int (iI vm), .int (iI vd), .int (iI vx)]), (xw, aI g 72000 f2_28), (xa, aI g 64 (lfT mW 64)), (xb, aI g 64 (lfT mB 64)), (xc, aI g 27 (lfT mWM 27)), (xd, aI g 27 (lfT mBM 27)), (xe, aI g 13 (lfT mBO 13))]) (cn := 0) (sn := 0) (sn2 := []) rfl rfl rfl rfl ?_
                  have hbt := bgt_hor (k1 := cn1 - cm) (k2 := cn2 - cn1) (bk := bk) (a1 := a1) (w := vw) (a0 := a0) (by omega) hrs (by omega) ha2 (by omega) (by omega) (by omega)
                  refine v_iload fx 0 dX8_twoDimensions_192 rfl rfl ?_
                  refine v_istore_n fx [(3, .int (iI vw)), (8, .int (iI vw)), (7, .int (iI (a1 - q1))), (6, .int (iI q1)), (5, .int (iI a1)), (0, .ref h0), (1, .int (iI ba)), (2, .int (iI ab)), (4, .int (iI bk))] dX8_twoDimensions_194 (by decide) rfl rfl ?_
                  refine v_goto fx 5 dX8_twoDimensions_195 (by decide) ?_
                  refine v_ws [1, 2, 0, 3, 4, 5, 6, 7] [(h0, ob 8 [.ref xa, .ref xb, .ref xc, .ref xd, .ref xe, .ref xf, .ref xg, .int (iI vc), .int (iI vk), .int (iI vw), .ref xm, .ref xv, .int (iI vg), .ref xw, .int (iI cn2), .int (iI vi), .ref xq, .int (iI ve), .int (iI vf), .int (iI vu), .int (iI vl), .ref xr, .ref xh, .ref xo, .ref xp, .int (iI vr), .int (iI va), .int (iI vt), .int (iI vm), .int (iI vd), .int (iI vx)]), (xw, aI g 72000 f2_28), (xv, aZ g 72000 fg), (xa, aI g 64 (lfT mW 64)), (xb, aI g 64 (lfT mB 64)), (xc, aI g 27 (lfT mWM 27)), (xd, aI g 27 (lfT mBM 27)), (xe, aI g 13 (lfT mBO 13))] rfl rfl ?_
                  refine v_lv [5, 6, 7, 0, 8] [(0, .ref h0), (1, .int (iI ba)), (2, .int (iI ab)), (3, .int (iI vw)), (4, .int (iI bk))] rfl ?_
                  exact ihL5 vw bk cn2 f2_28 (by omega) (by omega) (by omega) (by omega)
            ·
              refine v_aload_n fx 3 dX8_twoDimensions_129 rfl rfl ?_
              refine v_aload_n fx 3 dX8_twoDimensions_130 rfl rfl ?_
              refine v_get fx 6 11 inX8 k1007 dX8_twoDimensions_131 rfl rfl (by decide) rfl rfl rfl ?_
              refine v_iload_n fx 4 dX8_twoDimensions_134 rfl rfl ?_
              refine v_iload fx 2 dX8_twoDimensions_135 rfl rfl ?_
              refine v_callV (As := [.ref xv, .int (iI ba), .int (iI a1)]) (rest := []) fx [6, 7] [0, 1, 2, 3, 4, 5] [(h0, ob 8 [.ref xa, .ref xb, .ref xc, .ref xd, .ref xe, .ref xf, .ref xg, .int (iI vc), .int (iI vk), .int (iI vw), .ref xm, .ref xv, .int (iI vg), .ref xw, .int (iI b1), .int (iI vi), .ref xq, .int (iI ve), .int (iI vf), .int (iI vu), .int (iI vl), .ref xr, .ref xh, .ref xo, .ref xp, .int (iI vr), .int (iI va), .int (iI vt), .int (iI vm), .int (iI vd), .int (iI vx)]), (xv, aZ g 72000 fg)] [(xw, aI g 72000 f1), (xa, aI g 64 (lfT mW 64)), (xb, aI g 64 (lfT mB 64)), (xc, aI g 27 (lfT mWM 27)), (xd, aI g 27 (lfT mBM 27)), (xe, aI g 13 (lfT mBO 13))] 3 0 (c_X8_change l g h0 xa xb xc xd xe xf xg xm xv xw xq xr xh xo xp vc vk vw vg b1 vi ve vf vu vl vr va vt vm vd vx xv 72000 fg ba a1 (by first | omega | decide | assumption) (by first | omega | decide | assumption) (by first | omega | decide | assumption)) dX8_twoDimensions_137 k1130 k1132 k28 k57 k1133 ykX8_change rfl rfl rfl rfl rfl rfl rfl rfl (nl rfl) ⟨nl rfl, nl rfl⟩ ⟨(nl rfl), (nl rfl)⟩ rfl (fun v9 w9 hu => ?_)
              obtain ⟨a2, rfl, rfl, u_31⟩ := hu
              refine v_is (wn := [(xw, aI g 72000 f1), (xa, aI g 64 (lfT mW 64)), (xb, aI g 64 (lfT mB 64)), (xc, aI g 27 (lfT mWM 27)), (xd, aI g 27 (lfT mBM 27)), (xe, aI g 13 (lfT mBO 13)), (h0, ob 8 [.ref xa, .ref xb, .ref xc, .ref xd, .ref xe, .ref xf, .ref xg, .int (iI vc), .int (iI vk), .int (iI vw), .ref xm, .ref xv, .int (iI vg), .ref xw, .int (iI b1), .int (iI vi), .ref xq, .int (iI ve), .int (iI vf), .int (iI vu), .int (iI vl), .ref xr, .ref xh, .ref xo, .ref xp, .int (iI vr), .int (iI va), .int (iI vt), .int (iI vm), .int (iI vd), .int (iI vx)]), (xv, aZ g 72000 fg)]) (cn := 0) (sn := 0) (sn2 := [.int (iI a2)]) rfl rfl rfl rfl ?_
              have ha2 : (a1 < a2 ∧ a2 ≤ vw) ∨ (a1 = vw ∧ a2 = vw) := Or.inl u_31
              refine v_goto fx 147 dX8_twoDimensions_140 (by decide) ?_
              refine v_istore fx [(8, .int (iI a2)), (7, .int (iI (a1 - q1))), (6, .int (iI q1)), (5, .int (iI a1)), (0, .ref h0), (1, .int (iI ba)), (2, .int (iI ab)), (3, .int (iI a0)), (4, .int (iI bk))] dX8_twoDimensions_147 (by decide) rfl rfl ?_
              refine v_aload_n fx 4 dX8_twoDimensions_149 rfl rfl ?_
              refine v_iconst fx dX8_twoDimensions_150 rfl ?_
              refine v_iconst fx dX8_twoDimensions_151 rfl ?_
              refine v_callV (As := [.int (iI 1), .int (iI 3)]) (rest := []) fx [6, 0] [1, 2, 3, 4, 5, 7] [(h0, ob 8 [.ref xa, .ref xb, .ref xc, .ref xd, .ref xe, .ref xf, .ref xg, .int (iI vc), .int (iI vk), .int (iI vw), .ref xm, .ref xv, .int (iI vg), .ref xw, .int (iI b1), .int (iI vi), .ref xq, .int (iI ve), .int (iI vf), .int (iI vu), .int (iI vl), .ref xr, .ref xh, .ref xo, .ref xp, .int (iI vr), .int (iI va), .int (iI vt), .int (iI vm), .int (iI vd), .int (iI vx)]), (xw, aI g 72000 f1)] [(xa, aI g 64 (lfT mW 64)), (xb, aI g 64 (lfT mB 64)), (xc, aI g 27 (lfT mWM 27)), (xd, aI g 27 (lfT mBM 27)), (xe, aI g 13 (lfT mBO 13)), (xv, aZ g 72000 fg)] 2 0 (c_X8_number l g h0 xa xb xc xd xe xf xg xm xv xw xq xr xh xo xp vc vk vw vg b1 vi ve vf vu vl vr va vt vm vd vx f1 (iI 1) 3 (by first | omega | decide | assumption) (by first | omega | decide | assumption)) dX8_twoDimensions_152 k1106 k1108 k22 k57 k1109 ykX8_number rfl rfl rfl rfl rfl rfl rfl rfl (nl rfl) ⟨nl rfl, nl rfl⟩ ⟨(nl rfl), (nl rfl)⟩ rfl (fun v9 w9 hu => ?_)
              obtain ⟨cm, f2_32, rfl, rfl, u_33⟩ := hu
              refine v_is (wn := [(xa, aI g 64 (lfT mW 64)), (xb, aI g 64 (lfT mB 64)), (xc, aI g 27 (lfT mWM 27)), (xd, aI g 27 (lfT mBM 27)), (xe, aI g 13 (lfT mBO 13)), (xv, aZ g 72000 fg), (h0, ob 8 [.ref xa, .ref xb, .ref xc, .ref xd, .ref xe, .ref xf, .ref xg, .int (iI vc), .int (iI vk), .int (iI vw), .ref xm, .ref xv, .int (iI vg), .ref xw, .int (iI cm), .int (iI vi), .ref xq, .int (iI ve), .int (iI vf), .int (iI vu), .int (iI vl), .ref xr, .ref xh, .ref xo, .ref xp, .int (iI vr), .int (iI va), .int (iI vt), .int (iI vm), .int (iI vd), .int (iI vx)]), (xw, aI g 72000 f2_32)]) (cn := 0) (sn := 0) (sn2 := []) rfl rfl rfl rfl ?_
              refine v_aload_n fx 4 dX8_twoDimensions_155 rfl rfl ?_
              refine v_iload fx 3 dX8_twoDimensions_156 rfl rfl ?_
              refine v_iload_n fx 7 dX8_twoDimensions_158 rfl rfl ?_
              refine v_if_ge fx 166 dX8_twoDimensions_159 (by decide) rfl (by omega) (fun h_34 => ?_) (fun h_34 => ?_)
              ·
                have hrs : (a0 < 0 ∧ a0 = 0) ∨ (0 ≤ a0 ∧ a0 = a0) := Or.inr ⟨h_34, rfl⟩
                refine v_iload_n fx 7 dX8_twoDimensions_166 rfl rfl ?_
                refine v_isub fx (a1 - a0) dX8_twoDimensions_167 (by rfl) rfl ?_
                refine v_iload fx 8 dX8_twoDimensions_168 rfl rfl ?_
                refine v_callV (As := [.int (iI (a1 - a0)), .int (iI bk)]) (rest := []) fx [6, 7, 0, 1, 2, 3, 4] [5] [(h0, ob 8 [.ref xa, .ref xb, .ref xc, .ref xd, .ref xe, .ref xf, .ref xg, .int (iI vc), .int (iI vk), .int (iI vw), .ref xm, .ref xv, .int (iI vg), .ref xw, .int (iI cm), .int (iI vi), .ref xq, .int (iI ve), .int (iI vf), .int (iI vu), .int (iI vl), .ref xr, .ref xh, .ref xo, .ref xp, .int (iI vr), .int (iI va), .int (iI vt), .int (iI vm), .int (iI vd), .int (iI vx)]), (xw, aI g 72000 f2_32), (xa, aI g 64 (lfT mW 64)), (xb, aI g 64 (lfT mB 64)), (xc, aI g 27 (lfT mWM 27)), (xd, aI g 27 (lfT mBM 27)), (xe, aI g 13 (lfT mBO 13))] [(xv, aZ g 72000 fg)] 2 0 (c_X8_run l g h0 xa xb xc xd xe xf xg xm xv xw xq xr xh xo xp vc vk vw vg cm vi ve vf vu vl vr va vt vm vd vx f2_32 (a1 - a0) bk (by first | omega | decide | assumption) (by first | omega | decide | assumption) (by first | omega | decide | assumption) (by first | omega | decide | assumption)) dX8_twoDimensions_170 k1118 k1120 k25 k57 k1121 ykX8_run rfl rfl rfl rfl rfl rfl rfl rfl (nl rfl) ⟨nl rfl, nl rfl⟩ ⟨(nl rfl), (nl rfl)⟩ rfl (fun v9 w9 hu => ?_)
                obtain ⟨cn1, f2_35, rfl, rfl, u_36, u_37⟩ := hu
                refine v_is (wn := [(xv, aZ g 72000 fg), (h0, ob 8 [.ref xa, .ref xb, .ref xc, .ref xd, .ref xe, .ref xf, .ref xg, .int (iI vc), .int (iI vk), .int (iI vw), .ref xm, .ref xv, .int (iI vg), .ref xw, .int (iI cn1), .int (iI vi), .ref xq, .int (iI ve), .int (iI vf), .int (iI vu), .int (iI vl), .ref xr, .ref xh, .ref xo, .ref xp, .int (iI vr), .int (iI va), .int (iI vt), .int (iI vm), .int (iI vd), .int (iI vx)]), (xw, aI g 72000 f2_35), (xa, aI g 64 (lfT mW 64)), (xb, aI g 64 (lfT mB 64)), (xc, aI g 27 (lfT mWM 27)), (xd, aI g 27 (lfT mBM 27)), (xe, aI g 13 (lfT mBO 13))]) (cn := 0) (sn := 0) (sn2 := []) rfl rfl rfl rfl ?_
                have hbr := bgt_run (k1 := cn1 - cm) (bk := bk) (w := vw) (a1 := a1) (a0 := a0) (by omega) hrs (by omega) (by omega) (by omega)
                refine v_aload_n fx 4 dX8_twoDimensions_173 rfl rfl ?_
                refine v_iload fx 0 dX8_twoDimensions_174 rfl rfl ?_
                refine v_iload fx 3 dX8_twoDimensions_176 rfl rfl ?_
                refine v_isub fx (a2 - a1) dX8_twoDimensions_178 (by rfl) rfl ?_
                refine v_iload fx 8 dX8_twoDimensions_179 rfl rfl ?_
                refine v_if_ne fx 188 dX8_twoDimensions_181 (by decide) rfl (by omega) (fun h_38 => ?_) (fun h_38 => ?_)
                ·
                  refine v_iconst fx dX8_twoDimensions_188 rfl ?_
                  refine v_callV (As := [.int (iI (a2 - a1)), .int (iI 0)]) (rest := []) fx [1, 2, 3, 4, 5, 6, 7] [0] [(h0, ob 8 [.ref xa, .ref xb, .ref xc, .ref xd, .ref xe, .ref xf, .ref xg, .int (iI vc), .int (iI vk), .int (iI vw), .ref xm, .ref xv, .int (iI vg), .ref xw, .int (iI cn1), .int (iI vi), .ref xq, .int (iI ve), .int (iI vf), .int (iI vu), .int (iI vl), .ref xr, .ref xh, .ref xo, .ref xp, .int (iI vr), .int (iI va), .int (iI vt), .int (iI vm), .int (iI vd), .int (iI vx)]), (xw, aI g 72000 f2_35), (xa, aI g 64 (lfT mW 64)), (xb, aI g 64 (lfT mB 64)), (xc, aI g 27 (lfT mWM 27)), (xd, aI g 27 (lfT mBM 27)), (xe, aI g 13 (lfT mBO 13))] [(xv, aZ g 72000 fg)] 2 0 (c_X8_run l g h0 xa xb xc xd xe xf xg xm xv xw xq xr xh xo xp vc vk vw vg cn1 vi ve vf vu vl vr va vt vm vd vx f2_35 (a2 - a1) 0 (by first | omega | decide | assumption) (by first | omega | decide | assumption) (by first | omega | decide | assumption) (by first | omega | decide | assumption)) dX8_twoDimensions_189 k1118 k1120 k25 k57 k1121 ykX8_run rfl rfl rfl rfl rfl rfl rfl rfl (nl rfl) ⟨nl rfl, nl rfl⟩ ⟨(nl rfl), (nl rfl)⟩ rfl (fun v9 w9 hu => ?_)
                  obtain ⟨cn2, f2_39, rfl, rfl, u_40, u_41⟩ := hu
                  refine v_is (wn := [(xv, aZ g 72000 fg), (h0, ob 8 [.ref xa, .ref xb, .ref xc, .ref xd, .ref xe, .ref xf, .ref xg, .int (iI vc), .int (iI vk), .int (iI vw), .ref xm, .ref xv, .int (iI vg), .ref xw, .int (iI cn2), .int (iI vi), .ref xq, .int (iI ve), .int (iI vf), .int (iI vu), .int (iI vl), .ref xr, .ref xh, .ref xo, .ref xp, .int (iI vr), .int (iI va), .int (iI vt), .int (iI vm), .int (iI vd), .int (iI vx)]), (xw, aI g 72000 f2_39), (xa, aI g 64 (lfT mW 64)), (xb, aI g 64 (lfT mB 64)), (xc, aI g 27 (lfT mWM 27)), (xd, aI g 27 (lfT mBM 27)), (xe, aI g 13 (lfT mBO 13))]) (cn := 0) (sn := 0) (sn2 := []) rfl rfl rfl rfl ?_
                  have hbt := bgt_hor (k1 := cn1 - cm) (k2 := cn2 - cn1) (bk := bk) (a1 := a1) (w := vw) (a0 := a0) (by omega) hrs (by omega) ha2 (by omega) (by omega) (by omega)
                  refine v_iload fx 0 dX8_twoDimensions_192 rfl rfl ?_
                  refine v_istore_n fx [(3, .int (iI a2)), (8, .int (iI a2)), (7, .int (iI (a1 - q1))), (6, .int (iI q1)), (5, .int (iI a1)), (0, .ref h0), (1, .int (iI ba)), (2, .int (iI ab)), (4, .int (iI bk))] dX8_twoDimensions_194 (by decide) rfl rfl ?_
                  refine v_goto fx 5 dX8_twoDimensions_195 (by decide) ?_
                  refine v_ws [1, 2, 0, 3, 4, 5, 6, 7] [(h0, ob 8 [.ref xa, .ref xb, .ref xc, .ref xd, .ref xe, .ref xf, .ref xg, .int (iI vc), .int (iI vk), .int (iI vw), .ref xm, .ref xv, .int (iI vg), .ref xw, .int (iI cn2), .int (iI vi), .ref xq, .int (iI ve), .int (iI vf), .int (iI vu), .int (iI vl), .ref xr, .ref xh, .ref xo, .ref xp, .int (iI vr), .int (iI va), .int (iI vt), .int (iI vm), .int (iI vd), .int (iI vx)]), (xw, aI g 72000 f2_39), (xv, aZ g 72000 fg), (xa, aI g 64 (lfT mW 64)), (xb, aI g 64 (lfT mB 64)), (xc, aI g 27 (lfT mWM 27)), (xd, aI g 27 (lfT mBM 27)), (xe, aI g 13 (lfT mBO 13))] rfl rfl ?_
                  refine v_lv [5, 6, 7, 0, 8] [(0, .ref h0), (1, .int (iI ba)), (2, .int (iI ab)), (3, .int (iI a2)), (4, .int (iI bk))] rfl ?_
                  exact ihL5 a2 bk cn2 f2_39 (by omega) (by omega) (by omega) (by omega)
                ·
                  refine v_iconst fx dX8_twoDimensions_184 rfl ?_
                  refine v_goto fx 189 dX8_twoDimensions_185 (by decide) ?_
                  refine v_callV (As := [.int (iI (a2 - a1)), .int (iI 1)]) (rest := []) fx [1, 2, 3, 4, 5, 6, 7] [0] [(h0, ob 8 [.ref xa, .ref xb, .ref xc, .ref xd, .ref xe, .ref xf, .ref xg, .int (iI vc), .int (iI vk), .int (iI vw), .ref xm, .ref xv, .int (iI vg), .ref xw, .int (iI cn1), .int (iI vi), .ref xq, .int (iI ve), .int (iI vf), .int (iI vu), .int (iI vl), .ref xr, .ref xh, .ref xo, .ref xp, .int (iI vr), .int (iI va), .int (iI vt), .int (iI vm), .int (iI vd), .int (iI vx)]), (xw, aI g 72000 f2_35), (xa, aI g 64 (lfT mW 64)), (xb, aI g 64 (lfT mB 64)), (xc, aI g 27 (lfT mWM 27)), (xd, aI g 27 (lfT mBM 27)), (xe, aI g 13 (lfT mBO 13))] [(xv, aZ g 72000 fg)] 2 0 (c_X8_run l g h0 xa xb xc xd xe xf xg xm xv xw xq xr xh xo xp vc vk vw vg cn1 vi ve vf vu vl vr va vt vm vd vx f2_35 (a2 - a1) 1 (by first | omega | decide | assumption) (by first | omega | decide | assumption) (by first | omega | decide | assumption) (by first | omega | decide | assumption)) dX8_twoDimensions_189 k1118 k1120 k25 k57 k1121 ykX8_run rfl rfl rfl rfl rfl rfl rfl rfl (nl rfl) ⟨nl rfl, nl rfl⟩ ⟨(nl rfl), (nl rfl)⟩ rfl (fun v9 w9 hu => ?_)
                  obtain ⟨cn2, f2_42, rfl, rfl, u_43, u_44⟩ := hu
                  refine v_is (wn := [(xv, aZ g 72000 fg), (h0, ob 8 [.ref xa, .ref xb, .ref xc, .ref xd, .ref xe, .ref xf, .ref xg, .int (iI vc), .int (iI vk), .int (iI vw), .ref xm, .ref xv, .int (iI vg), .ref xw, .int (iI cn2), .int (iI vi), .ref xq, .int (iI ve), .int (iI vf), .int (iI vu), .int (iI vl), .ref xr, .ref xh, .ref xo, .ref xp, .int (iI vr), .int (iI va), .int (iI vt), .int (iI vm), .int (iI vd), .int (iI vx)]), (xw, aI g 72000 f2_42), (xa, aI g 64 (lfT mW 64)), (xb, aI g 64 (lfT mB 64)), (xc, aI g 27 (lfT mWM 27)), (xd, aI g 27 (lfT mBM 27)), (xe, aI g 13 (lfT mBO 13))]) (cn := 0) (sn := 0) (sn2 := []) rfl rfl rfl rfl ?_
                  have hbt := bgt_hor (k1 := cn1 - cm) (k2 := cn2 - cn1) (bk := bk) (a1 := a1) (w := vw) (a0 := a0) (by omega) hrs (by omega) ha2 (by omega) (by omega) (by omega)
                  refine v_iload fx 0 dX8_twoDimensions_192 rfl rfl ?_
                  refine v_istore_n fx [(3, .int (iI a2)), (8, .int (iI a2)), (7, .int (iI (a1 - q1))), (6, .int (iI q1)), (5, .int (iI a1)), (0, .ref h0), (1, .int (iI ba)), (2, .int (iI ab)), (4, .int (iI bk))] dX8_twoDimensions_194 (by decide) rfl rfl ?_
                  refine v_goto fx 5 dX8_twoDimensions_195 (by decide) ?_
                  refine v_ws [1, 2, 0, 3, 4, 5, 6, 7] [(h0, ob 8 [.ref xa, .ref xb, .ref xc, .ref xd, .ref xe, .ref xf, .ref xg, .int (iI vc), .int (iI vk), .int (iI vw), .ref xm, .ref xv, .int (iI vg), .ref xw, .int (iI cn2), .int (iI vi), .ref xq, .int (iI ve), .int (iI vf), .int (iI vu), .int (iI vl), .ref xr, .ref xh, .ref xo, .ref xp, .int (iI vr), .int (iI va), .int (iI vt), .int (iI vm), .int (iI vd), .int (iI vx)]), (xw, aI g 72000 f2_42), (xv, aZ g 72000 fg), (xa, aI g 64 (lfT mW 64)), (xb, aI g 64 (lfT mB 64)), (xc, aI g 27 (lfT mWM 27)), (xd, aI g 27 (lfT mBM 27)), (xe, aI g 13 (lfT mBO 13))] rfl rfl ?_
                  refine v_lv [5, 6, 7, 0, 8] [(0, .ref h0), (1, .int (iI ba)), (2, .int (iI ab)), (3, .int (iI a2)), (4, .int (iI bk))] rfl ?_
                  exact ihL5 a2 bk cn2 f2_42 (by omega) (by omega) (by omega) (by omega)
              ·
                have hrs : (a0 < 0 ∧ (0 : Int) = 0) ∨ (0 ≤ a0 ∧ (0 : Int) = a0) := Or.inl ⟨h_34, rfl⟩
                refine v_iconst fx dX8_twoDimensions_162 rfl ?_
                refine v_goto fx 167 dX8_twoDimensions_163 (by decide) ?_
                refine v_isub fx (a1 - 0) dX8_twoDimensions_167 (by rfl) rfl ?_
                refine v_iload fx 8 dX8_twoDimensions_168 rfl rfl ?_
                refine v_callV (As := [.int (iI (a1 - 0)), .int (iI bk)]) (rest := []) fx [6, 7, 0, 1, 2, 3, 4] [5] [(h0, ob 8 [.ref xa, .ref xb, .ref xc, .ref xd, .ref xe, .ref xf, .ref xg, .int (iI vc), .int (iI vk), .int (iI vw), .ref xm, .ref xv, .int (iI vg), .ref xw, .int (iI cm), .int (iI vi), .ref xq, .int (iI ve), .int (iI vf), .int (iI vu), .int (iI vl), .ref xr, .ref xh, .ref xo, .ref xp, .int (iI vr), .int (iI va), .int (iI vt), .int (iI vm), .int (iI vd), .int (iI vx)]), (xw, aI g 72000 f2_32), (xa, aI g 64 (lfT mW 64)), (xb, aI g 64 (lfT mB 64)), (xc, aI g 27 (lfT mWM 27)), (xd, aI g 27 (lfT mBM 27)), (xe, aI g 13 (lfT mBO 13))] [(xv, aZ g 72000 fg)] 2 0 (c_X8_run l g h0 xa xb xc xd xe xf xg xm xv xw xq xr xh xo xp vc vk vw vg cm vi ve vf vu vl vr va vt vm vd vx f2_32 (a1 - 0) bk (by first | omega | decide | assumption) (by first | omega | decide | assumption) (by first | omega | decide | assumption) (by first | omega | decide | assumption)) dX8_twoDimensions_170 k1118 k1120 k25 k57 k1121 ykX8_run rfl rfl rfl rfl rfl rfl rfl rfl (nl rfl) ⟨nl rfl, nl rfl⟩ ⟨(nl rfl), (nl rfl)⟩ rfl (fun v9 w9 hu => ?_)
                obtain ⟨cn1, f2_45, rfl, rfl, u_46, u_47⟩ := hu
                refine v_is (wn := [(xv, aZ g 72000 fg), (h0, ob 8 [.ref xa, .ref xb, .ref xc, .ref xd, .ref xe, .ref xf, .ref xg, .int (iI vc), .int (iI vk), .int (iI vw), .ref xm, .ref xv, .int (iI vg), .ref xw, .int (iI cn1), .int (iI vi), .ref xq, .int (iI ve), .int (iI vf), .int (iI vu), .int (iI vl), .ref xr, .ref xh, .ref xo, .ref xp, .int (iI vr), .int (iI va), .int (iI vt), .int (iI vm), .int (iI vd), .int (iI vx)]), (xw, aI g 72000 f2_45), (xa, aI g 64 (lfT mW 64)), (xb, aI g 64 (lfT mB 64)), (xc, aI g 27 (lfT mWM 27)), (xd, aI g 27 (lfT mBM 27)), (xe, aI g 13 (lfT mBO 13))]) (cn := 0) (sn := 0) (sn2 := []) rfl rfl rfl rfl ?_
                have hbr := bgt_run (k1 := cn1 - cm) (bk := bk) (w := vw) (a1 := a1) (a0 := a0) (by omega) hrs (by omega) (by omega) (by omega)
                refine v_aload_n fx 4 dX8_twoDimensions_173 rfl rfl ?_
                refine v_iload fx 0 dX8_twoDimensions_174 rfl rfl ?_
                refine v_iload fx 3 dX8_twoDimensions_176 rfl rfl ?_
                refine v_isub fx (a2 - a1) dX8_twoDimensions_178 (by rfl) rfl ?_
                refine v_iload fx 8 dX8_twoDimensions_179 rfl rfl ?_
                refine v_if_ne fx 188 dX8_twoDimensions_181 (by decide) rfl (by omega) (fun h_48 => ?_) (fun h_48 => ?_)
                ·
                  refine v_iconst fx dX8_twoDimensions_188 rfl ?_
                  refine v_callV (As := [.int (iI (a2 - a1)), .int (iI 0)]) (rest := []) fx [1, 2, 3, 4, 5, 6, 7] [0] [(h0, ob 8 [.ref xa, .ref xb, .ref xc, .ref xd, .ref xe, .ref xf, .ref xg, .int (iI vc), .int (iI vk), .int (iI vw), .ref xm, .ref xv, .int (iI vg), .ref xw, .int (iI cn1), .int (iI vi), .ref xq, .int (iI ve), .int (iI vf), .int (iI vu), .int (iI vl), .ref xr, .ref xh, .ref xo, .ref xp, .int (iI vr), .int (iI va), .int (iI vt), .int (iI vm), .int (iI vd), .int (iI vx)]), (xw, aI g 72000 f2_45), (xa, aI g 64 (lfT mW 64)), (xb, aI g 64 (lfT mB 64)), (xc, aI g 27 (lfT mWM 27)), (xd, aI g 27 (lfT mBM 27)), (xe, aI g 13 (lfT mBO 13))] [(xv, aZ g 72000 fg)] 2 0 (c_X8_run l g h0 xa xb xc xd xe xf xg xm xv xw xq xr xh xo xp vc vk vw vg cn1 vi ve vf vu vl vr va vt vm vd vx f2_45 (a2 - a1) 0 (by first | omega | decide | assumption) (by first | omega | decide | assumption) (by first | omega | decide | assumption) (by first | omega | decide | assumption)) dX8_twoDimensions_189 k1118 k1120 k25 k57 k1121 ykX8_run rfl rfl rfl rfl rfl rfl rfl rfl (nl rfl) ⟨nl rfl, nl rfl⟩ ⟨(nl rfl), (nl rfl)⟩ rfl (fun v9 w9 hu => ?_)
                  obtain ⟨cn2, f2_49, rfl, rfl, u_50, u_51⟩ := hu
                  refine v_is (wn := [(xv, aZ g 72000 fg), (h0, ob 8 [.ref xa, .ref xb, .ref xc, .ref xd, .ref xe, .ref xf, .ref xg, .int (iI vc), .int (iI vk), .int (iI vw), .ref xm, .ref xv, .int (iI vg), .ref xw, .int (iI cn2), .int (iI vi), .ref xq, .int (iI ve), .int (iI vf), .int (iI vu), .int (iI vl), .ref xr, .ref xh, .ref xo, .ref xp, .int (iI vr), .int (iI va), .int (iI vt), .int (iI vm), .int (iI vd), .int (iI vx)]), (xw, aI g 72000 f2_49), (xa, aI g 64 (lfT mW 64)), (xb, aI g 64 (lfT mB 64)), (xc, aI g 27 (lfT mWM 27)), (xd, aI g 27 (lfT mBM 27)), (xe, aI g 13 (lfT mBO 13))]) (cn := 0) (sn := 0) (sn2 := []) rfl rfl rfl rfl ?_
                  have hbt := bgt_hor (k1 := cn1 - cm) (k2 := cn2 - cn1) (bk := bk) (a1 := a1) (w := vw) (a0 := a0) (by omega) hrs (by omega) ha2 (by omega) (by omega) (by omega)
                  refine v_iload fx 0 dX8_twoDimensions_192 rfl rfl ?_
                  refine v_istore_n fx [(3, .int (iI a2)), (8, .int (iI a2)), (7, .int (iI (a1 - q1))), (6, .int (iI q1)), (5, .int (iI a1)), (0, .ref h0), (1, .int (iI ba)), (2, .int (iI ab)), (4, .int (iI bk))] dX8_twoDimensions_194 (by decide) rfl rfl ?_
                  refine v_goto fx 5 dX8_twoDimensions_195 (by decide) ?_
                  refine v_ws [1, 2, 0, 3, 4, 5, 6, 7] [(h0, ob 8 [.ref xa, .ref xb, .ref xc, .ref xd, .ref xe, .ref xf, .ref xg, .int (iI vc), .int (iI vk), .int (iI vw), .ref xm, .ref xv, .int (iI vg), .ref xw, .int (iI cn2), .int (iI vi), .ref xq, .int (iI ve), .int (iI vf), .int (iI vu), .int (iI vl), .ref xr, .ref xh, .ref xo, .ref xp, .int (iI vr), .int (iI va), .int (iI vt), .int (iI vm), .int (iI vd), .int (iI vx)]), (xw, aI g 72000 f2_49), (xv, aZ g 72000 fg), (xa, aI g 64 (lfT mW 64)), (xb, aI g 64 (lfT mB 64)), (xc, aI g 27 (lfT mWM 27)), (xd, aI g 27 (lfT mBM 27)), (xe, aI g 13 (lfT mBO 13))] rfl rfl ?_
                  refine v_lv [5, 6, 7, 0, 8] [(0, .ref h0), (1, .int (iI ba)), (2, .int (iI ab)), (3, .int (iI a2)), (4, .int (iI bk))] rfl ?_
                  exact ihL5 a2 bk cn2 f2_49 (by omega) (by omega) (by omega) (by omega)
                ·
                  refine v_iconst fx dX8_twoDimensions_184 rfl ?_
                  refine v_goto fx 189 dX8_twoDimensions_185 (by decide) ?_
                  refine v_callV (As := [.int (iI (a2 - a1)), .int (iI 1)]) (rest := []) fx [1, 2, 3, 4, 5, 6, 7] [0] [(h0, ob 8 [.ref xa, .ref xb, .ref xc, .ref xd, .ref xe, .ref xf, .ref xg, .int (iI vc), .int (iI vk), .int (iI vw), .ref xm, .ref xv, .int (iI vg), .ref xw, .int (iI cn1), .int (iI vi), .ref xq, .int (iI ve), .int (iI vf), .int (iI vu), .int (iI vl), .ref xr, .ref xh, .ref xo, .ref xp, .int (iI vr), .int (iI va), .int (iI vt), .int (iI vm), .int (iI vd), .int (iI vx)]), (xw, aI g 72000 f2_45), (xa, aI g 64 (lfT mW 64)), (xb, aI g 64 (lfT mB 64)), (xc, aI g 27 (lfT mWM 27)), (xd, aI g 27 (lfT mBM 27)), (xe, aI g 13 (lfT mBO 13))] [(xv, aZ g 72000 fg)] 2 0 (c_X8_run l g h0 xa xb xc xd xe xf xg xm xv xw xq xr xh xo xp vc vk vw vg cn1 vi ve vf vu vl vr va vt vm vd vx f2_45 (a2 - a1) 1 (by first | omega | decide | assumption) (by first | omega | decide | assumption) (by first | omega | decide | assumption) (by first | omega | decide | assumption)) dX8_twoDimensions_189 k1118 k1120 k25 k57 k1121 ykX8_run rfl rfl rfl rfl rfl rfl rfl rfl (nl rfl) ⟨nl rfl, nl rfl⟩ ⟨(nl rfl), (nl rfl)⟩ rfl (fun v9 w9 hu => ?_)
                  obtain ⟨cn2, f2_52, rfl, rfl, u_53, u_54⟩ := hu
                  refine v_is (wn := [(xv, aZ g 72000 fg), (h0, ob 8 [.ref xa, .ref xb, .ref xc, .ref xd, .ref xe, .ref xf, .ref xg, .int (iI vc), .int (iI vk), .int (iI vw), .ref xm, .ref xv, .int (iI vg), .ref xw, .int (iI cn2), .int (iI vi), .ref xq, .int (iI ve), .int (iI vf), .int (iI vu), .int (iI vl), .ref xr, .ref xh, .ref xo, .ref xp, .int (iI vr), .int (iI va), .int (iI vt), .int (iI vm), .int (iI vd), .int (iI vx)]), (xw, aI g 72000 f2_52), (xa, aI g 64 (lfT mW 64)), (xb, aI g 64 (lfT mB 64)), (xc, aI g 27 (lfT mWM 27)), (xd, aI g 27 (lfT mBM 27)), (xe, aI g 13 (lfT mBO 13))]) (cn := 0) (sn := 0) (sn2 := []) rfl rfl rfl rfl ?_
                  have hbt := bgt_hor (k1 := cn1 - cm) (k2 := cn2 - cn1) (bk := bk) (a1 := a1) (w := vw) (a0 := a0) (by omega) hrs (by omega) ha2 (by omega) (by omega) (by omega)
                  refine v_iload fx 0 dX8_twoDimensions_192 rfl rfl ?_
                  refine v_istore_n fx [(3, .int (iI a2)), (8, .int (iI a2)), (7, .int (iI (a1 - q1))), (6, .int (iI q1)), (5, .int (iI a1)), (0, .ref h0), (1, .int (iI ba)), (2, .int (iI ab)), (4, .int (iI bk))] dX8_twoDimensions_194 (by decide) rfl rfl ?_
                  refine v_goto fx 5 dX8_twoDimensions_195 (by decide) ?_
                  refine v_ws [1, 2, 0, 3, 4, 5, 6, 7] [(h0, ob 8 [.ref xa, .ref xb, .ref xc, .ref xd, .ref xe, .ref xf, .ref xg, .int (iI vc), .int (iI vk), .int (iI vw), .ref xm, .ref xv, .int (iI vg), .ref xw, .int (iI cn2), .int (iI vi), .ref xq, .int (iI ve), .int (iI vf), .int (iI vu), .int (iI vl), .ref xr, .ref xh, .ref xo, .ref xp, .int (iI vr), .int (iI va), .int (iI vt), .int (iI vm), .int (iI vd), .int (iI vx)]), (xw, aI g 72000 f2_52), (xv, aZ g 72000 fg), (xa, aI g 64 (lfT mW 64)), (xb, aI g 64 (lfT mB 64)), (xc, aI g 27 (lfT mWM 27)), (xd, aI g 27 (lfT mBM 27)), (xe, aI g 13 (lfT mBO 13))] rfl rfl ?_
                  refine v_lv [5, 6, 7, 0, 8] [(0, .ref h0), (1, .int (iI ba)), (2, .int (iI ab)), (3, .int (iI a2)), (4, .int (iI bk))] rfl ?_
                  exact ihL5 a2 bk cn2 f2_52 (by omega) (by omega) (by omega) (by omega)
          ·
            refine v_iload fx 0 dX8_twoDimensions_90 rfl rfl ?_
            refine v_iconst fx dX8_twoDimensions_92 rfl ?_
            refine v_icmp_gt fx 120 dX8_twoDimensions_93 (by decide) rfl (by omega) (by omega) (fun h_55 => ?_) (fun h_55 => ?_)
            ·
              refine v_iload fx 2 dX8_twoDimensions_120 rfl rfl ?_
              refine v_aload_n fx 3 dX8_twoDimensions_122 rfl rfl ?_
              refine v_get fx 6 9 inX8 k1005 dX8_twoDimensions_123 rfl rfl (by decide) rfl rfl rfl ?_
              refine v_icmp_ge fx 143 dX8_twoDimensions_126 (by decide) rfl (by omega) (by omega) (fun h_56 => ?_) (fun h_56 => ?_)
              ·
                have ha2 : (a1 < vw ∧ vw ≤ vw) ∨ (a1 = vw ∧ vw = vw) := Or.inr ⟨by omega, rfl⟩
                refine v_aload_n fx 3 dX8_twoDimensions_143 rfl rfl ?_
                refine v_get fx 6 9 inX8 k1005 dX8_twoDimensions_144 rfl rfl (by decide) rfl rfl rfl ?_
                refine v_istore fx [(8, .int (iI vw)), (7, .int (iI (a1 - q1))), (6, .int (iI q1)), (5, .int (iI a1)), (0, .ref h0), (1, .int (iI ba)), (2, .int (iI ab)), (3, .int (iI a0)), (4, .int (iI bk))] dX8_twoDimensions_147 (by decide) rfl rfl ?_
                refine v_aload_n fx 4 dX8_twoDimensions_149 rfl rfl ?_
                refine v_iconst fx dX8_twoDimensions_150 rfl ?_
                refine v_iconst fx dX8_twoDimensions_151 rfl ?_
                refine v_callV (As := [.int (iI 1), .int (iI 3)]) (rest := []) fx [6, 0] [1, 2, 3, 4, 5, 7] [(h0, ob 8 [.ref xa, .ref xb, .ref xc, .ref xd, .ref xe, .ref xf, .ref xg, .int (iI vc), .int (iI vk), .int (iI vw), .ref xm, .ref xv, .int (iI vg), .ref xw, .int (iI b1), .int (iI vi), .ref xq, .int (iI ve), .int (iI vf), .int (iI vu), .int (iI vl), .ref xr, .ref xh, .ref xo, .ref xp, .int (iI vr), .int (iI va), .int (iI vt), .int (iI vm), .int (iI vd), .int (iI vx)]), (xw, aI g 72000 f1)] [(xa, aI g 64 (lfT mW 64)), (xb, aI g 64 (lfT mB 64)), (xc, aI g 27 (lfT mWM 27)), (xd, aI g 27 (lfT mBM 27)), (xe, aI g 13 (lfT mBO 13)), (xv, aZ g 72000 fg)] 2 0 (c_X8_number l g h0 xa xb xc xd xe xf xg xm xv xw xq xr xh xo xp vc vk vw vg b1 vi ve vf vu vl vr va vt vm vd vx f1 (iI 1) 3 (by first | omega | decide | assumption) (by first | omega | decide | assumption)) dX8_twoDimensions_152 k1106 k1108 k22 k57 k1109 ykX8_number rfl rfl rfl rfl rfl rfl rfl rfl (nl rfl) ⟨nl rfl, nl rfl⟩ ⟨(nl rfl), (nl rfl)⟩ rfl (fun v9 w9 hu => ?_)
                obtain ⟨cm, f2_57, rfl, rfl, u_58⟩ := hu
                refine v_is (wn := [(xa, aI g 64 (lfT mW 64)), (xb, aI g 64 (lfT mB 64)), (xc, aI g 27 (lfT mWM 27)), (xd, aI g 27 (lfT mBM 27)), (xe, aI g 13 (lfT mBO 13)), (xv, aZ g 72000 fg), (h0, ob 8 [.ref xa, .ref xb, .ref xc, .ref xd, .ref xe, .ref xf, .ref xg, .int (iI vc), .int (iI vk), .int (iI vw), .ref xm, .ref xv, .int (iI vg), .ref xw, .int (iI cm), .int (iI vi), .ref xq, .int (iI ve), .int (iI vf), .int (iI vu), .int (iI vl), .ref xr, .ref xh, .ref xo, .ref xp, .int (iI vr), .int (iI va), .int (iI vt), .int (iI vm), .int (iI vd), .int (iI vx)]), (xw, aI g 72000 f2_57)]) (cn := 0) (sn := 0) (sn2 := []) rfl rfl rfl rfl ?_
                refine v_aload_n fx 4 dX8_twoDimensions_155 rfl rfl ?_
                refine v_iload fx 3 dX8_twoDimensions_156 rfl rfl ?_
                refine v_iload_n fx 7 dX8_twoDimensions_158 rfl rfl ?_
                refine v_if_ge fx 166 dX8_twoDimensions_159 (by decide) rfl (by omega) (fun h_59 => ?_) (fun h_59 => ?_)
                ·
                  have hrs : (a0 < 0 ∧ a0 = 0) ∨ (0 ≤ a0 ∧ a0 = a0) := Or.inr ⟨h_59, rfl⟩
                  refine v_iload_n fx 7 dX8_twoDimensions_166 rfl rfl ?_
                  refine v_isub fx (a1 - a0) dX8_twoDimensions_167 (by rfl) rfl ?_
                  refine v_iload fx 8 dX8_twoDimensions_168 rfl rfl ?_
                  refine v_callV (As := [.int (iI (a1 - a0)), .int (iI bk)]) (rest := []) fx [6, 7, 0, 1, 2, 3, 4] [5] [(h0, ob 8 [.ref xa, .ref xb, .ref xc, .ref xd, .ref xe, .ref xf, .ref xg, .int (iI vc), .int (iI vk), .int (iI vw), .ref xm, .ref xv, .int (iI vg), .ref xw, .int (iI cm), .int (iI vi), .ref xq, .int (iI ve), .int (iI vf), .int (iI vu), .int (iI vl), .ref xr, .ref xh, .ref xo, .ref xp, .int (iI vr), .int (iI va), .int (iI vt), .int (iI vm), .int (iI vd), .int (iI vx)]), (xw, aI g 72000 f2_57), (xa, aI g 64 (lfT mW 64)), (xb, aI g 64 (lfT mB 64)), (xc, aI g 27 (lfT mWM 27)), (xd, aI g 27 (lfT mBM 27)), (xe, aI g 13 (lfT mBO 13))] [(xv, aZ g 72000 fg)] 2 0 (c_X8_run l g h0 xa xb xc xd xe xf xg xm xv xw xq xr xh xo xp vc vk vw vg cm vi ve vf vu vl vr va vt vm vd vx f2_57 (a1 - a0) bk (by first | omega | decide | assumption) (by first | omega | decide | assumption) (by first | omega | decide | assumption) (by first | omega | decide | assumption)) dX8_twoDimensions_170 k1118 k1120 k25 k57 k1121 ykX8_run rfl rfl rfl rfl rfl rfl rfl rfl (nl rfl) ⟨nl rfl, nl rfl⟩ ⟨(nl rfl), (nl rfl)⟩ rfl (fun v9 w9 hu => ?_)
                  obtain ⟨cn1, f2_60, rfl, rfl, u_61, u_62⟩ := hu
                  refine v_is (wn := [(xv, aZ g 72000 fg), (h0, ob 8 [.ref xa, .ref xb, .ref xc, .ref xd, .ref xe, .ref xf, .ref xg, .int (iI vc), .int (iI vk), .int (iI vw), .ref xm, .ref xv, .int (iI vg), .ref xw, .int (iI cn1), .int (iI vi), .ref xq, .int (iI ve), .int (iI vf), .int (iI vu), .int (iI vl), .ref xr, .ref xh, .ref xo, .ref xp, .int (iI vr), .int (iI va), .int (iI vt), .int (iI vm), .int (iI vd), .int (iI vx)]), (xw, aI g 72000 f2_60), (xa, aI g 64 (lfT mW 64)), (xb, aI g 64 (lfT mB 64)), (xc, aI g 27 (lfT mWM 27)), (xd, aI g 27 (lfT mBM 27)), (xe, aI g 13 (lfT mBO 13))]) (cn := 0) (sn := 0) (sn2 := []) rfl rfl rfl rfl ?_
                  have hbr := bgt_run (k1 := cn1 - cm) (bk := bk) (w := vw) (a1 := a1) (a0 := a0) (by omega) hrs (by omega) (by omega) (by omega)
                  refine v_aload_n fx 4 dX8_twoDimensions_173 rfl rfl ?_
                  refine v_iload fx 0 dX8_twoDimensions_174 rfl rfl ?_
                  refine v_iload fx 3 dX8_twoDimensions_176 rfl rfl ?_
                  refine v_isub fx (vw - a1) dX8_twoDimensions_178 (by rfl) rfl ?_
                  refine v_iload fx 8 dX8_twoDimensions_179 rfl rfl ?_
                  refine v_if_ne fx 188 dX8_twoDimensions_181 (by decide) rfl (by omega) (fun h_63 => ?_) (fun h_63 => ?_)
                  ·
                    refine v_iconst fx dX8_twoDimensions_188 rfl ?_
                    refine v_callV (As := [.int (iI (vw - a1)), .int (iI 0)]) (rest := []) fx [1, 2, 3, 4, 5, 6, 7] [0] [(h0, ob 8 [.ref xa, .ref xb, .ref xc, .ref xd, .ref xe, .ref xf, .ref xg, .int (iI vc), .int (iI vk), .int (iI vw), .ref xm, .ref xv, .int (iI vg), .ref xw, .int (iI cn1), .int (iI vi), .ref xq, .int (iI ve), .int (iI vf), .int (iI vu), .int (iI vl), .ref xr, .ref xh, .ref xo, .ref xp, .int (iI vr), .int (iI va), .int (iI vt), .int (iI vm), .int (iI vd), .int (iI vx)]), (xw, aI g 72000 f2_60), (xa, aI g 64 (lfT mW 64)), (xb, aI g 64 (lfT mB 64)), (xc, aI g 27 (lfT mWM 27)), (xd, aI g 27 (lfT mBM 27)), (xe, aI g 13 (lfT mBO 13))] [(xv, aZ g 72000 fg)] 2 0 (c_X8_run l g h0 xa xb xc xd xe xf xg xm xv xw xq xr xh xo xp vc vk vw vg cn1 vi ve vf vu vl vr va vt vm vd vx f2_60 (vw - a1) 0 (by first | omega | decide | assumption) (by first | omega | decide | assumption) (by first | omega | decide | assumption) (by first | omega | decide | assumption)) dX8_twoDimensions_189 k1118 k1120 k25 k57 k1121 ykX8_run rfl rfl rfl rfl rfl rfl rfl rfl (nl rfl) ⟨nl rfl, nl rfl⟩ ⟨(nl rfl), (nl rfl)⟩ rfl (fun v9 w9 hu => ?_)
                    obtain ⟨cn2, f2_64, rfl, rfl, u_65, u_66⟩ := hu
                    refine v_is (wn := [(xv, aZ g 72000 fg), (h0, ob 8 [.ref xa, .ref xb, .ref xc, .ref xd, .ref xe, .ref xf, .ref xg, .int (iI vc), .int (iI vk), .int (iI vw), .ref xm, .ref xv, .int (iI vg), .ref xw, .int (iI cn2), .int (iI vi), .ref xq, .int (iI ve), .int (iI vf), .int (iI vu), .int (iI vl), .ref xr, .ref xh, .ref xo, .ref xp, .int (iI vr), .int (iI va), .int (iI vt), .int (iI vm), .int (iI vd), .int (iI vx)]), (xw, aI g 72000 f2_64), (xa, aI g 64 (lfT mW 64)), (xb, aI g 64 (lfT mB 64)), (xc, aI g 27 (lfT mWM 27)), (xd, aI g 27 (lfT mBM 27)), (xe, aI g 13 (lfT mBO 13))]) (cn := 0) (sn := 0) (sn2 := []) rfl rfl rfl rfl ?_
                    have hbt := bgt_hor (k1 := cn1 - cm) (k2 := cn2 - cn1) (bk := bk) (a1 := a1) (w := vw) (a0 := a0) (by omega) hrs (by omega) ha2 (by omega) (by omega) (by omega)
                    refine v_iload fx 0 dX8_twoDimensions_192 rfl rfl ?_
                    refine v_istore_n fx [(3, .int (iI vw)), (8, .int (iI vw)), (7, .int (iI (a1 - q1))), (6, .int (iI q1)), (5, .int (iI a1)), (0, .ref h0), (1, .int (iI ba)), (2, .int (iI ab)), (4, .int (iI bk))] dX8_twoDimensions_194 (by decide) rfl rfl ?_
                    refine v_goto fx 5 dX8_twoDimensions_195 (by decide) ?_
                    refine v_ws [1, 2, 0, 3, 4, 5, 6, 7] [(h0, ob 8 [.ref xa, .ref xb, .ref xc, .ref xd, .ref xe, .ref xf, .ref xg, .int (iI vc), .int (iI vk), .int (iI vw), .ref xm, .ref xv, .int (iI vg), .ref xw, .int (iI cn2), .int (iI vi), .ref xq, .int (iI ve), .int (iI vf), .int (iI vu), .int (iI vl), .ref xr, .ref xh, .ref xo, .ref xp, .int (iI vr), .int (iI va), .int (iI vt), .int (iI vm), .int (iI vd), .int (iI vx)]), (xw, aI g 72000 f2_64), (xv, aZ g 72000 fg), (xa, aI g 64 (lfT mW 64)), (xb, aI g 64 (lfT mB 64)), (xc, aI g 27 (lfT mWM 27)), (xd, aI g 27 (lfT mBM 27)), (xe, aI g 13 (lfT mBO 13))] rfl rfl ?_
                    refine v_lv [5, 6, 7, 0, 8] [(0, .ref h0), (1, .int (iI ba)), (2, .int (iI ab)), (3, .int (iI vw)), (4, .int (iI bk))] rfl ?_
                    exact ihL5 vw bk cn2 f2_64 (by omega) (by omega) (by omega) (by omega)
                  ·
                    refine v_iconst fx dX8_twoDimensions_184 rfl ?_
                    refine v_goto fx 189 dX8_twoDimensions_185 (by decide) ?_
                    refine v_callV (As := [.int (iI (vw - a1)), .int (iI 1)]) (rest := []) fx [1, 2, 3, 4, 5, 6, 7] [0] [(h0, ob 8 [.ref xa, .ref xb, .ref xc, .ref xd, .ref xe, .ref xf, .ref xg, .int (iI vc), .int (iI vk), .int (iI vw), .ref xm, .ref xv, .int (iI vg), .ref xw, .int (iI cn1), .int (iI vi), .ref xq, .int (iI ve), .int (iI vf), .int (iI vu), .int (iI vl), .ref xr, .ref xh, .ref xo, .ref xp, .int (iI vr), .int (iI va), .int (iI vt), .int (iI vm), .int (iI vd), .int (iI vx)]), (xw, aI g 72000 f2_60), (xa, aI g 64 (lfT mW 64)), (xb, aI g 64 (lfT mB 64)), (xc, aI g 27 (lfT mWM 27)), (xd, aI g 27 (lfT mBM 27)), (xe, aI g 13 (lfT mBO 13))] [(xv, aZ g 72000 fg)] 2 0 (c_X8_run l g h0 xa xb xc xd xe xf xg xm xv xw xq xr xh xo xp vc vk vw vg cn1 vi ve vf vu vl vr va vt vm vd vx f2_60 (vw - a1) 1 (by first | omega | decide | assumption) (by first | omega | decide | assumption) (by first | omega | decide | assumption) (by first | omega | decide | assumption)) dX8_twoDimensions_189 k1118 k1120 k25 k57 k1121 ykX8_run rfl rfl rfl rfl rfl rfl rfl rfl (nl rfl) ⟨nl rfl, nl rfl⟩ ⟨(nl rfl), (nl rfl)⟩ rfl (fun v9 w9 hu => ?_)
                    obtain ⟨cn2, f2_67, rfl, rfl, u_68, u_69⟩ := hu
                    refine v_is (wn := [(xv, aZ g 72000 fg), (h0, ob 8 [.ref xa, .ref xb, .ref xc, .ref xd, .ref xe, .ref xf, .ref xg, .int (iI vc), .int (iI vk), .int (iI vw), .ref xm, .ref xv, .int (iI vg), .ref xw, .int (iI cn2), .int (iI vi), .ref xq, .int (iI ve), .int (iI vf), .int (iI vu), .int (iI vl), .ref xr, .ref xh, .ref xo, .ref xp, .int (iI vr), .int (iI va), .int (iI vt), .int (iI vm), .int (iI vd), .int (iI vx)]), (xw, aI g 72000 f2_67), (xa, aI g 64 (lfT mW 64)), (xb, aI g 64 (lfT mB 64)), (xc, aI g 27 (lfT mWM 27)), (xd, aI g 27 (lfT mBM 27)), (xe, aI g 13 (lfT mBO 13))]) (cn := 0) (sn := 0) (sn2 := []) rfl rfl rfl rfl ?_
                    have hbt := bgt_hor (k1 := cn1 - cm) (k2 := cn2 - cn1) (bk := bk) (a1 := a1) (w := vw) (a0 := a0) (by omega) hrs (by omega) ha2 (by omega) (by omega) (by omega)
                    refine v_iload fx 0 dX8_twoDimensions_192 rfl rfl ?_
                    refine v_istore_n fx [(3, .int (iI vw)), (8, .int (iI vw)), (7, .int (iI (a1 - q1))), (6, .int (iI q1)), (5, .int (iI a1)), (0, .ref h0), (1, .int (iI ba)), (2, .int (iI ab)), (4, .int (iI bk))] dX8_twoDimensions_194 (by decide) rfl rfl ?_
                    refine v_goto fx 5 dX8_twoDimensions_195 (by decide) ?_
                    refine v_ws [1, 2, 0, 3, 4, 5, 6, 7] [(h0, ob 8 [.ref xa, .ref xb, .ref xc, .ref xd, .ref xe, .ref xf, .ref xg, .int (iI vc), .int (iI vk), .int (iI vw), .ref xm, .ref xv, .int (iI vg), .ref xw, .int (iI cn2), .int (iI vi), .ref xq, .int (iI ve), .int (iI vf), .int (iI vu), .int (iI vl), .ref xr, .ref xh, .ref xo, .ref xp, .int (iI vr), .int (iI va), .int (iI vt), .int (iI vm), .int (iI vd), .int (iI vx)]), (xw, aI g 72000 f2_67), (xv, aZ g 72000 fg), (xa, aI g 64 (lfT mW 64)), (xb, aI g 64 (lfT mB 64)), (xc, aI g 27 (lfT mWM 27)), (xd, aI g 27 (lfT mBM 27)), (xe, aI g 13 (lfT mBO 13))] rfl rfl ?_
                    refine v_lv [5, 6, 7, 0, 8] [(0, .ref h0), (1, .int (iI ba)), (2, .int (iI ab)), (3, .int (iI vw)), (4, .int (iI bk))] rfl ?_
                    exact ihL5 vw bk cn2 f2_67 (by omega) (by omega) (by omega) (by omega)
                ·
                  have hrs : (a0 < 0 ∧ (0 : Int) = 0) ∨ (0 ≤ a0 ∧ (0 : Int) = a0) := Or.inl ⟨h_59, rfl⟩
                  refine v_iconst fx dX8_twoDimensions_162 rfl ?_
                  refine v_goto fx 167 dX8_twoDimensions_163 (by decide) ?_
                  refine v_isub fx (a1 - 0) dX8_twoDimensions_167 (by rfl) rfl ?_
                  refine v_iload fx 8 dX8_twoDimensions_168 rfl rfl ?_
                  refine v_callV (As := [.int (iI (a1 - 0)), .int (iI bk)]) (rest := []) fx [6, 7, 0, 1, 2, 3, 4] [5] [(h0, ob 8 [.ref xa, .ref xb, .ref xc, .ref xd, .ref xe, .ref xf, .ref xg, .int (iI vc), .int (iI vk), .int (iI vw), .ref xm, .ref xv, .int (iI vg), .ref xw, .int (iI cm), .int (iI vi), .ref xq, .int (iI ve), .int (iI vf), .int (iI vu), .int (iI vl), .ref xr, .ref xh, .ref xo, .ref xp, .int (iI vr), .int (iI va), .int (iI vt), .int (iI vm), .int (iI vd), .int (iI vx)]), (xw, aI g 72000 f2_57), (xa, aI g 64 (lfT mW 64)), (xb, aI g 64 (lfT mB 64)), (xc, aI g 27 (lfT mWM 27)), (xd, aI g 27 (lfT mBM 27)), (xe, aI g 13 (lfT mBO 13))] [(xv, aZ g 72000 fg)] 2 0 (c_X8_run l g h0 xa xb xc xd xe xf xg xm xv xw xq xr xh xo xp vc vk vw vg cm vi ve vf vu vl vr va vt vm vd vx f2_57 (a1 - 0) bk (by first | omega | decide | assumption) (by first | omega | decide | assumption) (by first | omega | decide | assumption) (by first | omega | decide | assumption)) dX8_twoDimensions_170 k1118 k1120 k25 k57 k1121 ykX8_run rfl rfl rfl rfl rfl rfl rfl rfl (nl rfl) ⟨nl rfl, nl rfl⟩ ⟨(nl rfl), (nl rfl)⟩ rfl (fun v9 w9 hu => ?_)
                  obtain ⟨cn1, f2_70, rfl, rfl, u_71, u_72⟩ := hu
                  refine v_is (wn := [(xv, aZ g 72000 fg), (h0, ob 8 [.ref xa, .ref xb, .ref xc, .ref xd, .ref xe, .ref xf, .ref xg, .int (iI vc), .int (iI vk), .int (iI vw), .ref xm, .ref xv, .int (iI vg), .ref xw, .int (iI cn1), .int (iI vi), .ref xq, .int (iI ve), .int (iI vf), .int (iI vu), .int (iI vl), .ref xr, .ref xh, .ref xo, .ref xp, .int (iI vr), .int (iI va), .int (iI vt), .int (iI vm), .int (iI vd), .int (iI vx)]), (xw, aI g 72000 f2_70), (xa, aI g 64 (lfT mW 64)), (xb, aI g 64 (lfT mB 64)), (xc, aI g 27 (lfT mWM 27)), (xd, aI g 27 (lfT mBM 27)), (xe, aI g 13 (lfT mBO 13))]) (cn := 0) (sn := 0) (sn2 := []) rfl rfl rfl rfl ?_
                  have hbr := bgt_run (k1 := cn1 - cm) (bk := bk) (w := vw) (a1 := a1) (a0 := a0) (by omega) hrs (by omega) (by omega) (by omega)
                  refine v_aload_n fx 4 dX8_twoDimensions_173 rfl rfl ?_
                  refine v_iload fx 0 dX8_twoDimensions_174 rfl rfl ?_
                  refine v_iload fx 3 dX8_twoDimensions_176 rfl rfl ?_
                  refine v_isub fx (vw - a1) dX8_twoDimensions_178 (by rfl) rfl ?_
                  refine v_iload fx 8 dX8_twoDimensions_179 rfl rfl ?_
                  refine v_if_ne fx 188 dX8_twoDimensions_181 (by decide) rfl (by omega) (fun h_73 => ?_) (fun h_73 => ?_)
                  ·
                    refine v_iconst fx dX8_twoDimensions_188 rfl ?_
                    refine v_callV (As := [.int (iI (vw - a1)), .int (iI 0)]) (rest := []) fx [1, 2, 3, 4, 5, 6, 7] [0] [(h0, ob 8 [.ref xa, .ref xb, .ref xc, .ref xd, .ref xe, .ref xf, .ref xg, .int (iI vc), .int (iI vk), .int (iI vw), .ref xm, .ref xv, .int (iI vg), .ref xw, .int (iI cn1), .int (iI vi), .ref xq, .int (iI ve), .int (iI vf), .int (iI vu), .int (iI vl), .ref xr, .ref xh, .ref xo, .ref xp, .int (iI vr), .int (iI va), .int (iI vt), .int (iI vm), .int (iI vd), .int (iI vx)]), (xw, aI g 72000 f2_70), (xa, aI g 64 (lfT mW 64)), (xb, aI g 64 (lfT mB 64)), (xc, aI g 27 (lfT mWM 27)), (xd, aI g 27 (lfT mBM 27)), (xe, aI g 13 (lfT mBO 13))] [(xv, aZ g 72000 fg)] 2 0 (c_X8_run l g h0 xa xb xc xd xe xf xg xm xv xw xq xr xh xo xp vc vk vw vg cn1 vi ve vf vu vl vr va vt vm vd vx f2_70 (vw - a1) 0 (by first | omega | decide | assumption) (by first | omega | decide | assumption) (by first | omega | decide | assumption) (by first | omega | decide | assumption)) dX8_twoDimensions_189 k1118 k1120 k25 k57 k1121 ykX8_run rfl rfl rfl rfl rfl rfl rfl rfl (nl rfl) ⟨nl rfl, nl rfl⟩ ⟨(nl rfl), (nl rfl)⟩ rfl (fun v9 w9 hu => ?_)
                    obtain ⟨cn2, f2_74, rfl, rfl, u_75, u_76⟩ := hu
                    refine v_is (wn := [(xv, aZ g 72000 fg), (h0, ob 8 [.ref xa, .ref xb, .ref xc, .ref xd, .ref xe, .ref xf, .ref xg, .int (iI vc), .int (iI vk), .int (iI vw), .ref xm, .ref xv, .int (iI vg), .ref xw, .int (iI cn2), .int (iI vi), .ref xq, .int (iI ve), .int (iI vf), .int (iI vu), .int (iI vl), .ref xr, .ref xh, .ref xo, .ref xp, .int (iI vr), .int (iI va), .int (iI vt), .int (iI vm), .int (iI vd), .int (iI vx)]), (xw, aI g 72000 f2_74), (xa, aI g 64 (lfT mW 64)), (xb, aI g 64 (lfT mB 64)), (xc, aI g 27 (lfT mWM 27)), (xd, aI g 27 (lfT mBM 27)), (xe, aI g 13 (lfT mBO 13))]) (cn := 0) (sn := 0) (sn2 := []) rfl rfl rfl rfl ?_
                    have hbt := bgt_hor (k1 := cn1 - cm) (k2 := cn2 - cn1) (bk := bk) (a1 := a1) (w := vw) (a0 := a0) (by omega) hrs (by omega) ha2 (by omega) (by omega) (by omega)
                    refine v_iload fx 0 dX8_twoDimensions_192 rfl rfl ?_
                    refine v_istore_n fx [(3, .int (iI vw)), (8, .int (iI vw)), (7, .int (iI (a1 - q1))), (6, .int (iI q1)), (5, .int (iI a1)), (0, .ref h0), (1, .int (iI ba)), (2, .int (iI ab)), (4, .int (iI bk))] dX8_twoDimensions_194 (by decide) rfl rfl ?_
                    refine v_goto fx 5 dX8_twoDimensions_195 (by decide) ?_
                    refine v_ws [1, 2, 0, 3, 4, 5, 6, 7] [(h0, ob 8 [.ref xa, .ref xb, .ref xc, .ref xd, .ref xe, .ref xf, .ref xg, .int (iI vc), .int (iI vk), .int (iI vw), .ref xm, .ref xv, .int (iI vg), .ref xw, .int (iI cn2), .int (iI vi), .ref xq, .int (iI ve), .int (iI vf), .int (iI vu), .int (iI vl), .ref xr, .ref xh, .ref xo, .ref xp, .int (iI vr), .int (iI va), .int (iI vt), .int (iI vm), .int (iI vd), .int (iI vx)]), (xw, aI g 72000 f2_74), (xv, aZ g 72000 fg), (xa, aI g 64 (lfT mW 64)), (xb, aI g 64 (lfT mB 64)), (xc, aI g 27 (lfT mWM 27)), (xd, aI g 27 (lfT mBM 27)), (xe, aI g 13 (lfT mBO 13))] rfl rfl ?_
                    refine v_lv [5, 6, 7, 0, 8] [(0, .ref h0), (1, .int (iI ba)), (2, .int (iI ab)), (3, .int (iI vw)), (4, .int (iI bk))] rfl ?_
                    exact ihL5 vw bk cn2 f2_74 (by omega) (by omega) (by omega) (by omega)
                  ·
                    refine v_iconst fx dX8_twoDimensions_184 rfl ?_
                    refine v_goto fx 189 dX8_twoDimensions_185 (by decide) ?_
                    refine v_callV (As := [.int (iI (vw - a1)), .int (iI 1)]) (rest := []) fx [1, 2, 3, 4, 5, 6, 7] [0] [(h0, ob 8 [.ref xa, .ref xb, .ref xc, .ref xd, .ref xe, .ref xf, .ref xg, .int (iI vc), .int (iI vk), .int (iI vw), .ref xm, .ref xv, .int (iI vg), .ref xw, .int (iI cn1), .int (iI vi), .ref xq, .int (iI ve), .int (iI vf), .int (iI vu), .int (iI vl), .ref xr, .ref xh, .ref xo, .ref xp, .int (iI vr), .int (iI va), .int (iI vt), .int (iI vm), .int (iI vd), .int (iI vx)]), (xw, aI g 72000 f2_70), (xa, aI g 64 (lfT mW 64)), (xb, aI g 64 (lfT mB 64)), (xc, aI g 27 (lfT mWM 27)), (xd, aI g 27 (lfT mBM 27)), (xe, aI g 13 (lfT mBO 13))] [(xv, aZ g 72000 fg)] 2 0 (c_X8_run l g h0 xa xb xc xd xe xf xg xm xv xw xq xr xh xo xp vc vk vw vg cn1 vi ve vf vu vl vr va vt vm vd vx f2_70 (vw - a1) 1 (by first | omega | decide | assumption) (by first | omega | decide | assumption) (by first | omega | decide | assumption) (by first | omega | decide | assumption)) dX8_twoDimensions_189 k1118 k1120 k25 k57 k1121 ykX8_run rfl rfl rfl rfl rfl rfl rfl rfl (nl rfl) ⟨nl rfl, nl rfl⟩ ⟨(nl rfl), (nl rfl)⟩ rfl (fun v9 w9 hu => ?_)
                    obtain ⟨cn2, f2_77, rfl, rfl, u_78, u_79⟩ := hu
                    refine v_is (wn := [(xv, aZ g 72000 fg), (h0, ob 8 [.ref xa, .ref xb, .ref xc, .ref xd, .ref xe, .ref xf, .ref xg, .int (iI vc), .int (iI vk), .int (iI vw), .ref xm, .ref xv, .int (iI vg), .ref xw, .int (iI cn2), .int (iI vi), .ref xq, .int (iI ve), .int (iI vf), .int (iI vu), .int (iI vl), .ref xr, .ref xh, .ref xo, .ref xp, .int (iI vr), .int (iI va), .int (iI vt), .int (iI vm), .int (iI vd), .int (iI vx)]), (xw, aI g 72000 f2_77), (xa, aI g 64 (lfT mW 64)), (xb, aI g 64 (lfT mB 64)), (xc, aI g 27 (lfT mWM 27)), (xd, aI g 27 (lfT mBM 27)), (xe, aI g 13 (lfT mBO 13))]) (cn := 0) (sn := 0) (sn2 := []) rfl rfl rfl rfl ?_
                    have hbt := bgt_hor (k1 := cn1 - cm) (k2 := cn2 - cn1) (bk := bk) (a1 := a1) (w := vw) (a0 := a0) (by omega) hrs (by omega) ha2 (by omega) (by omega) (by omega)
                    refine v_iload fx 0 dX8_twoDimensions_192 rfl rfl ?_
                    refine v_istore_n fx [(3, .int (iI vw)), (8, .int (iI vw)), (7, .int (iI (a1 - q1))), (6, .int (iI q1)), (5, .int (iI a1)), (0, .ref h0), (1, .int (iI ba)), (2, .int (iI ab)), (4, .int (iI bk))] dX8_twoDimensions_194 (by decide) rfl rfl ?_
                    refine v_goto fx 5 dX8_twoDimensions_195 (by decide) ?_
                    refine v_ws [1, 2, 0, 3, 4, 5, 6, 7] [(h0, ob 8 [.ref xa, .ref xb, .ref xc, .ref xd, .ref xe, .ref xf, .ref xg, .int (iI vc), .int (iI vk), .int (iI vw), .ref xm, .ref xv, .int (iI vg), .ref xw, .int (iI cn2), .int (iI vi), .ref xq, .int (iI ve), .int (iI vf), .int (iI vu), .int (iI vl), .ref xr, .ref xh, .ref xo, .ref xp, .int (iI vr), .int (iI va), .int (iI vt), .int (iI vm), .int (iI vd), .int (iI vx)]), (xw, aI g 72000 f2_77), (xv, aZ g 72000 fg), (xa, aI g 64 (lfT mW 64)), (xb, aI g 64 (lfT mB 64)), (xc, aI g 27 (lfT mWM 27)), (xd, aI g 27 (lfT mBM 27)), (xe, aI g 13 (lfT mBO 13))] rfl rfl ?_
                    refine v_lv [5, 6, 7, 0, 8] [(0, .ref h0), (1, .int (iI ba)), (2, .int (iI ab)), (3, .int (iI vw)), (4, .int (iI bk))] rfl ?_
                    exact ihL5 vw bk cn2 f2_77 (by omega) (by omega) (by omega) (by omega)
              ·
                refine v_aload_n fx 3 dX8_twoDimensions_129 rfl rfl ?_
                refine v_aload_n fx 3 dX8_twoDimensions_130 rfl rfl ?_
                refine v_get fx 6 11 inX8 k1007 dX8_twoDimensions_131 rfl rfl (by decide) rfl rfl rfl ?_
                refine v_iload_n fx 4 dX8_twoDimensions_134 rfl rfl ?_
                refine v_iload fx 2 dX8_twoDimensions_135 rfl rfl ?_
                refine v_callV (As := [.ref xv, .int (iI ba), .int (iI a1)]) (rest := []) fx [6, 7] [0, 1, 2, 3, 4, 5] [(h0, ob 8 [.ref xa, .ref xb, .ref xc, .ref xd, .ref xe, .ref xf, .ref xg, .int (iI vc), .int (iI vk), .int (iI vw), .ref xm, .ref xv, .int (iI vg), .ref xw, .int (iI b1), .int (iI vi), .ref xq, .int (iI ve), .int (iI vf), .int (iI vu), .int (iI vl), .ref xr, .ref xh, .ref xo, .ref xp, .int (iI vr), .int (iI va), .int (iI vt), .int (iI vm), .int (iI vd), .int (iI vx)]), (xv, aZ g 72000 fg)] [(xw, aI g 72000 f1), (xa, aI g 64 (lfT mW 64)), (xb, aI g 64 (lfT mB 64)), (xc, aI g 27 (lfT mWM 27)), (xd, aI g 27 (lfT mBM 27)), (xe, aI g 13 (lfT mBO 13))] 3 0 (c_X8_change l g h0 xa xb xc xd xe xf xg xm xv xw xq xr xh xo xp vc vk vw vg b1 vi ve vf vu vl vr va vt vm vd vx xv 72000 fg ba a1 (by first | omega | decide | assumption) (by first | omega | decide | assumption) (by first | omega | decide | assumption)) dX8_twoDimensions_137 k1130 k1132 k28 k57 k1133 ykX8_change rfl rfl rfl rfl rfl rfl rfl rfl (nl rfl) ⟨nl rfl, nl rfl⟩ ⟨(nl rfl), (nl rfl)⟩ rfl (fun v9 w9 hu => ?_)
                obtain ⟨a2, rfl, rfl, u_80⟩ := hu
                refine v_is (wn := [(xw, aI g 72000 f1), (xa, aI g 64 (lfT mW 64)), (xb, aI g 64 (lfT mB 64)), (xc, aI g 27 (lfT mWM 27)), (xd, aI g 27 (lfT mBM 27)), (xe, aI g 13 (lfT mBO 13)), (h0, ob 8 [.ref xa, .ref xb, .ref xc, .ref xd, .ref xe, .ref xf, .ref xg, .int (iI vc), .int (iI vk), .int (iI vw), .ref xm, .ref xv, .int (iI vg), .ref xw, .int (iI b1), .int (iI vi), .ref xq, .int (iI ve), .int (iI vf), .int (iI vu), .int (iI vl), .ref xr, .ref xh, .ref xo, .ref xp, .int (iI vr), .int (iI va), .int (iI vt), .int (iI vm), .int (iI vd), .int (iI vx)]), (xv, aZ g 72000 fg)]) (cn := 0) (sn := 0) (sn2 := [.int (iI a2)]) rfl rfl rfl rfl ?_
                have ha2 : (a1 < a2 ∧ a2 ≤ vw) ∨ (a1 = vw ∧ a2 = vw) := Or.inl u_80
                refine v_goto fx 147 dX8_twoDimensions_140 (by decide) ?_
                refine v_istore fx [(8, .int (iI a2)), (7, .int (iI (a1 - q1))), (6, .int (iI q1)), (5, .int (iI a1)), (0, .ref h0), (1, .int (iI ba)), (2, .int (iI ab)), (3, .int (iI a0)), (4, .int (iI bk))] dX8_twoDimensions_147 (by decide) rfl rfl ?_
                refine v_aload_n fx 4 dX8_twoDimensions_149 rfl rfl ?_
                refine v_iconst fx dX8_twoDimensions_150 rfl ?_
                refine v_iconst fx dX8_twoDimensions_151 rfl ?_
                refine v_callV (As := [.int (iI 1), .int (iI 3)]) (rest := []) fx [6, 0] [1, 2, 3, 4, 5, 7] [(h0, ob 8 [.ref xa, .ref xb, .ref xc, .ref xd, .ref xe, .ref xf, .ref xg, .int (iI vc), .int (iI vk), .int (iI vw), .ref xm, .ref xv, .int (iI vg), .ref xw, .int (iI b1), .int (iI vi), .ref xq, .int (iI ve), .int (iI vf), .int (iI vu), .int (iI vl), .ref xr, .ref xh, .ref xo, .ref xp, .int (iI vr), .int (iI va), .int (iI vt), .int (iI vm), .int (iI vd), .int (iI vx)]), (xw, aI g 72000 f1)] [(xa, aI g 64 (lfT mW 64)), (xb, aI g 64 (lfT mB 64)), (xc, aI g 27 (lfT mWM 27)), (xd, aI g 27 (lfT mBM 27)), (xe, aI g 13 (lfT mBO 13)), (xv, aZ g 72000 fg)] 2 0 (c_X8_number l g h0 xa xb xc xd xe xf xg xm xv xw xq xr xh xo xp vc vk vw vg b1 vi ve vf vu vl vr va vt vm vd vx f1 (iI 1) 3 (by first | omega | decide | assumption) (by first | omega | decide | assumption)) dX8_twoDimensions_152 k1106 k1108 k22 k57 k1109 ykX8_number rfl rfl rfl rfl rfl rfl rfl rfl (nl rfl) ⟨nl rfl, nl rfl⟩ ⟨(nl rfl), (nl rfl)⟩ rfl (fun v9 w9 hu => ?_)
                obtain ⟨cm, f2_81, rfl, rfl, u_82⟩ := hu
                refine v_is (wn := [(xa, aI g 64 (lfT mW 64)), (xb, aI g 64 (lfT mB 64)), (xc, aI g 27 (lfT mWM 27)), (xd, aI g 27 (lfT mBM 27)), (xe, aI g 13 (lfT mBO 13)), (xv, aZ g 72000 fg), (h0, ob 8 [.ref xa, .ref xb, .ref xc, .ref xd, .ref xe, .ref xf, .ref xg, .int (iI vc), .int (iI vk), .int (iI vw), .ref xm, .ref xv, .int (iI vg), .ref xw, .int (iI cm), .int (iI vi), .ref xq, .int (iI ve), .int (iI vf), .int (iI vu), .int (iI vl), .ref xr, .ref xh, .ref xo, .ref xp, .int (iI vr), .int (iI va), .int (iI vt), .int (iI vm), .int (iI vd), .int (iI vx)]), (xw, aI g 72000 f2_81)]) (cn := 0) (sn := 0) (sn2 := []) rfl rfl rfl rfl ?_
                refine v_aload_n fx 4 dX8_twoDimensions_155 rfl rfl ?_
                refine v_iload fx 3 dX8_twoDimensions_156 rfl rfl ?_
                refine v_iload_n fx 7 dX8_twoDimensions_158 rfl rfl ?_
                refine v_if_ge fx 166 dX8_twoDimensions_159 (by decide) rfl (by omega) (fun h_83 => ?_) (fun h_83 => ?_)
                ·
                  have hrs : (a0 < 0 ∧ a0 = 0) ∨ (0 ≤ a0 ∧ a0 = a0) := Or.inr ⟨h_83, rfl⟩
                  refine v_iload_n fx 7 dX8_twoDimensions_166 rfl rfl ?_
                  refine v_isub fx (a1 - a0) dX8_twoDimensions_167 (by rfl) rfl ?_
                  refine v_iload fx 8 dX8_twoDimensions_168 rfl rfl ?_
                  refine v_callV (As := [.int (iI (a1 - a0)), .int (iI bk)]) (rest := []) fx [6, 7, 0, 1, 2, 3, 4] [5] [(h0, ob 8 [.ref xa, .ref xb, .ref xc, .ref xd, .ref xe, .ref xf, .ref xg, .int (iI vc), .int (iI vk), .int (iI vw), .ref xm, .ref xv, .int (iI vg), .ref xw, .int (iI cm), .int (iI vi), .ref xq, .int (iI ve), .int (iI vf), .int (iI vu), .int (iI vl), .ref xr, .ref xh, .ref xo, .ref xp, .int (iI vr), .int (iI va), .int (iI vt), .int (iI vm), .int (iI vd), .int (iI vx)]), (xw, aI g 72000 f2_81), (xa, aI g 64 (lfT mW 64)), (xb, aI g 64 (lfT mB 64)), (xc, aI g 27 (lfT mWM 27)), (xd, aI g 27 (lfT mBM 27)), (xe, aI g 13 (lfT mBO 13))] [(xv, aZ g 72000 fg)] 2 0 (c_X8_run l g h0 xa xb xc xd xe xf xg xm xv xw xq xr xh xo xp vc vk vw vg cm vi ve vf vu vl vr va vt vm vd vx f2_81 (a1 - a0) bk (by first | omega | decide | assumption) (by first | omega | decide | assumption) (by first | omega | decide | assumption) (by first | omega | decide | assumption)) dX8_twoDimensions_170 k1118 k1120 k25 k57 k1121 ykX8_run rfl rfl rfl rfl rfl rfl rfl rfl (nl rfl) ⟨nl rfl, nl rfl⟩ ⟨(nl rfl), (nl rfl)⟩ rfl (fun v9 w9 hu => ?_)
                  obtain ⟨cn1, f2_84, rfl, rfl, u_85, u_86⟩ := hu
                  refine v_is (wn := [(xv, aZ g 72000 fg), (h0, ob 8 [.ref xa, .ref xb, .ref xc, .ref xd, .ref xe, .ref xf, .ref xg, .int (iI vc), .int (iI vk), .int (iI vw), .ref xm, .ref xv, .int (iI vg), .ref xw, .int (iI cn1), .int (iI vi), .ref xq, .int (iI ve), .int (iI vf), .int (iI vu), .int (iI vl), .ref xr, .ref xh, .ref xo, .ref xp, .int (iI vr), .int (iI va), .int (iI vt), .int (iI vm), .int (iI vd), .int (iI vx)]), (xw, aI g 72000 f2_84), (xa, aI g 64 (lfT mW 64)), (xb, aI g 64 (lfT mB 64)), (xc, aI g 27 (lfT mWM 27)), (xd, aI g 27 (lfT mBM 27)), (xe, aI g 13 (lfT mBO 13))]) (cn := 0) (sn := 0) (sn2 := []) rfl rfl rfl rfl ?_
                  have hbr := bgt_run (k1 := cn1 - cm) (bk := bk) (w := vw) (a1 := a1) (a0 := a0) (by omega) hrs (by omega) (by omega) (by omega)
                  refine v_aload_n fx 4 dX8_twoDimensions_173 rfl rfl ?_
                  refine v_iload fx 0 dX8_twoDimensions_174 rfl rfl ?_
                  refine v_iload fx 3 dX8_twoDimensions_176 rfl rfl ?_
                  refine v_isub fx (a2 - a1) dX8_twoDimensions_178 (by rfl) rfl ?_
                  refine v_iload fx 8 dX8_twoDimensions_179 rfl rfl ?_
                  refine v_if_ne fx 188 dX8_twoDimensions_181 (by decide) rfl (by omega) (fun h_87 => ?_) (fun h_87 => ?_)
                  ·
                    refine v_iconst fx dX8_twoDimensions_188 rfl ?_
                    refine v_callV (As := [.int (iI (a2 - a1)), .int (iI 0)]) (rest := []) fx [1, 2, 3, 4, 5, 6, 7] [0] [(h0, ob 8 [.ref xa, .ref xb, .ref xc, .ref xd, .ref xe, .ref xf, .ref xg, .int (iI vc), .int (iI vk), .int (iI vw), .ref xm, .ref xv, .int (iI vg), .ref xw, .int (iI cn1), .int (iI vi), .ref xq, .int (iI ve), .int (iI vf), .int (iI vu), .int (iI vl), .ref xr, .ref xh, .ref xo, .ref xp, .int (iI vr), .int (iI va), .int (iI vt), .int (iI vm), .int (iI vd), .int (iI vx)]), (xw, aI g 72000 f2_84), (xa, aI g 64 (lfT mW 64)), (xb, aI g 64 (lfT mB 64)), (xc, aI g 27 (lfT mWM 27)), (xd, aI g 27 (lfT mBM 27)), (xe, aI g 13 (lfT mBO 13))] [(xv, aZ g 72000 fg)] 2 0 (c_X8_run l g h0 xa xb xc xd xe xf xg xm xv xw xq xr xh xo xp vc vk vw vg cn1 vi ve vf vu vl vr va vt vm vd vx f2_84 (a2 - a1) 0 (by first | omega | decide | assumption) (by first | omega | decide | assumption) (by first | omega | decide | assumption) (by first | omega | decide | assumption)) dX8_twoDimensions_189 k1118 k1120 k25 k57 k1121 ykX8_run rfl rfl rfl rfl rfl rfl rfl rfl (nl rfl) ⟨nl rfl, nl rfl⟩ ⟨(nl rfl), (nl rfl)⟩ rfl (fun v9 w9 hu => ?_)
                    obtain ⟨cn2, f2_88, rfl, rfl, u_89, u_90⟩ := hu
                    refine v_is (wn := [(xv, aZ g 72000 fg), (h0, ob 8 [.ref xa, .ref xb, .ref xc, .ref xd, .ref xe, .ref xf, .ref xg, .int (iI vc), .int (iI vk), .int (iI vw), .ref xm, .ref xv, .int (iI vg), .ref xw, .int (iI cn2), .int (iI vi), .ref xq, .int (iI ve), .int (iI vf), .int (iI vu), .int (iI vl), .ref xr, .ref xh, .ref xo, .ref xp, .int (iI vr), .int (iI va), .int (iI vt), .int (iI vm), .int (iI vd), .int (iI vx)]), (xw, aI g 72000 f2_88), (xa, aI g 64 (lfT mW 64)), (xb, aI g 64 (lfT mB 64)), (xc, aI g 27 (lfT mWM 27)), (xd, aI g 27 (lfT mBM 27)), (xe, aI g 13 (lfT mBO 13))]) (cn := 0) (sn := 0) (sn2 := []) rfl rfl rfl rfl ?_
                    have hbt := bgt_hor (k1 := cn1 - cm) (k2 := cn2 - cn1) (bk := bk) (a1 := a1) (w := vw) (a0 := a0) (by omega) hrs (by omega) ha2 (by omega) (by omega) (by omega)
                    refine v_iload fx 0 dX8_twoDimensions_192 rfl rfl ?_
                    refine v_istore_n fx [(3, .int (iI a2)), (8, .int (iI a2)), (7, .int (iI (a1 - q1))), (6, .int (iI q1)), (5, .int (iI a1)), (0, .ref h0), (1, .int (iI ba)), (2, .int (iI ab)), (4, .int (iI bk))] dX8_twoDimensions_194 (by decide) rfl rfl ?_
                    refine v_goto fx 5 dX8_twoDimensions_195 (by decide) ?_
                    refine v_ws [1, 2, 0, 3, 4, 5, 6, 7] [(h0, ob 8 [.ref xa, .ref xb, .ref xc, .ref xd, .ref xe, .ref xf, .ref xg, .int (iI vc), .int (iI vk), .int (iI vw), .ref xm, .ref xv, .int (iI vg), .ref xw, .int (iI cn2), .int (iI vi), .ref xq, .int (iI ve), .int (iI vf), .int (iI vu), .int (iI vl), .ref xr, .ref xh, .ref xo, .ref xp, .int (iI vr), .int (iI va), .int (iI vt), .int (iI vm), .int (iI vd), .int (iI vx)]), (xw, aI g 72000 f2_88), (xv, aZ g 72000 fg), (xa, aI g 64 (lfT mW 64)), (xb, aI g 64 (lfT mB 64)), (xc, aI g 27 (lfT mWM 27)), (xd, aI g 27 (lfT mBM 27)), (xe, aI g 13 (lfT mBO 13))] rfl rfl ?_
                    refine v_lv [5, 6, 7, 0, 8] [(0, .ref h0), (1, .int (iI ba)), (2, .int (iI ab)), (3, .int (iI a2)), (4, .int (iI bk))] rfl ?_
                    exact ihL5 a2 bk cn2 f2_88 (by omega) (by omega) (by omega) (by omega)
                  ·
                    refine v_iconst fx dX8_twoDimensions_184 rfl ?_
                    refine v_goto fx 189 dX8_twoDimensions_185 (by decide) ?_
                    refine v_callV (As := [.int (iI (a2 - a1)), .int (iI 1)]) (rest := []) fx [1, 2, 3, 4, 5, 6, 7] [0] [(h0, ob 8 [.ref xa, .ref xb, .ref xc, .ref xd, .ref xe, .ref xf, .ref xg, .int (iI vc), .int (iI vk), .int (iI vw), .ref xm, .ref xv, .int (iI vg), .ref xw, .int (iI cn1), .int (iI vi), .ref xq, .int (iI ve), .int (iI vf), .int (iI vu), .int (iI vl), .ref xr, .ref xh, .ref xo, .ref xp, .int (iI vr), .int (iI va), .int (iI vt), .int (iI vm), .int (iI vd), .int (iI vx)]), (xw, aI g 72000 f2_84), (xa, aI g 64 (lfT mW 64)), (xb, aI g 64 (lfT mB 64)), (xc, aI g 27 (lfT mWM 27)), (xd, aI g 27 (lfT mBM 27)), (xe, aI g 13 (lfT mBO 13))] [(xv, aZ g 72000 fg)] 2 0 (c_X8_run l g h0 xa xb xc xd xe xf xg xm xv xw xq xr xh xo xp vc vk vw vg cn1 vi ve vf vu vl vr va vt vm vd vx f2_84 (a2 - a1) 1 (by first | omega | decide | assumption) (by first | omega | decide | assumption) (by first | omega | decide | assumption) (by first | omega | decide | assumption)) dX8_twoDimensions_189 k1118 k1120 k25 k57 k1121 ykX8_run rfl rfl rfl rfl rfl rfl rfl rfl (nl rfl) ⟨nl rfl, nl rfl⟩ ⟨(nl rfl), (nl rfl)⟩ rfl (fun v9 w9 hu => ?_)
                    obtain ⟨cn2, f2_91, rfl, rfl, u_92, u_93⟩ := hu
                    refine v_is (wn := [(xv, aZ g 72000 fg), (h0, ob 8 [.ref xa, .ref xb, .ref xc, .ref xd, .ref xe, .ref xf, .ref xg, .int (iI vc), .int (iI vk), .int (iI vw), .ref xm, .ref xv, .int (iI vg), .ref xw, .int (iI cn2), .int (iI vi), .ref xq, .int (iI ve), .int (iI vf), .int (iI vu), .int (iI vl), .ref xr, .ref xh, .ref xo, .ref xp, .int (iI vr), .int (iI va), .int (iI vt), .int (iI vm), .int (iI vd), .int (iI vx)]), (xw, aI g 72000 f2_91), (xa, aI g 64 (lfT mW 64)), (xb, aI g 64 (lfT mB 64)), (xc, aI g 27 (lfT mWM 27)), (xd, aI g 27 (lfT mBM 27)), (xe, aI g 13 (lfT mBO 13))]) (cn := 0) (sn := 0) (sn2 := []) rfl rfl rfl rfl ?_
                    have hbt := bgt_hor (k1 := cn1 - cm) (k2 := cn2 - cn1) (bk := bk) (a1 := a1) (w := vw) (a0 := a0) (by omega) hrs (by omega) ha2 (by omega) (by omega) (by omega)
                    refine v_iload fx 0 dX8_twoDimensions_192 rfl rfl ?_
                    refine v_istore_n fx [(3, .int (iI a2)), (8, .int (iI a2)), (7, .int (iI (a1 - q1))), (6, .int (iI q1)), (5, .int (iI a1)), (0, .ref h0), (1, .int (iI ba)), (2, .int (iI ab)), (4, .int (iI bk))] dX8_twoDimensions_194 (by decide) rfl rfl ?_
                    refine v_goto fx 5 dX8_twoDimensions_195 (by decide) ?_
                    refine v_ws [1, 2, 0, 3, 4, 5, 6, 7] [(h0, ob 8 [.ref xa, .ref xb, .ref xc, .ref xd, .ref xe, .ref xf, .ref xg, .int (iI vc), .int (iI vk), .int (iI vw), .ref xm, .ref xv, .int (iI vg), .ref xw, .int (iI cn2), .int (iI vi), .ref xq, .int (iI ve), .int (iI vf), .int (iI vu), .int (iI vl), .ref xr, .ref xh, .ref xo, .ref xp, .int (iI vr), .int (iI va), .int (iI vt), .int (iI vm), .int (iI vd), .int (iI vx)]), (xw, aI g 72000 f2_91), (xv, aZ g 72000 fg), (xa, aI g 64 (lfT mW 64)), (xb, aI g 64 (lfT mB 64)), (xc, aI g 27 (lfT mWM 27)), (xd, aI g 27 (lfT mBM 27)), (xe, aI g 13 (lfT mBO 13))] rfl rfl ?_
                    refine v_lv [5, 6, 7, 0, 8] [(0, .ref h0), (1, .int (iI ba)), (2, .int (iI ab)), (3, .int (iI a2)), (4, .int (iI bk))] rfl ?_
                    exact ihL5 a2 bk cn2 f2_91 (by omega) (by omega) (by omega) (by omega)
                ·
                  have hrs : (a0 < 0 ∧ (0 : Int) = 0) ∨ (0 ≤ a0 ∧ (0 : Int) = a0) := Or.inl ⟨h_83, rfl⟩
                  refine v_iconst fx dX8_twoDimensions_162 rfl ?_
                  refine v_goto fx 167 dX8_twoDimensions_163 (by decide) ?_
                  refine v_isub fx (a1 - 0) dX8_twoDimensions_167 (by rfl) rfl ?_
                  refine v_iload fx 8 dX8_twoDimensions_168 rfl rfl ?_
                  refine v_callV (As := [.int (iI (a1 - 0)), .int (iI bk)]) (rest := []) fx [6, 7, 0, 1, 2, 3, 4] [5] [(h0, ob 8 [.ref xa, .ref xb, .ref xc, .ref xd, .ref xe, .ref xf, .ref xg, .int (iI vc), .int (iI vk), .int (iI vw), .ref xm, .ref xv, .int (iI vg), .ref xw, .int (iI cm), .int (iI vi), .ref xq, .int (iI ve), .int (iI vf), .int (iI vu), .int (iI vl), .ref xr, .ref xh, .ref xo, .ref xp, .int (iI vr), .int (iI va), .int (iI vt), .int (iI vm), .int (iI vd), .int (iI vx)]), (xw, aI g 72000 f2_81), (xa, aI g 64 (lfT mW 64)), (xb, aI g 64 (lfT mB 64)), (xc, aI g 27 (lfT mWM 27)), (xd, aI g 27 (lfT mBM 27)), (xe, aI g 13 (lfT mBO 13))] [(xv, aZ g 72000 fg)] 2 0 (c_X8_run l g h0 xa xb xc xd xe xf xg xm xv xw xq xr xh xo xp vc vk vw vg cm vi ve vf vu vl vr va vt vm vd vx f2_81 (a1 - 0) bk (by first | omega | decide | assumption) (by first | omega | decide | assumption) (by first | omega | decide | assumption) (by first | omega | decide | assumption)) dX8_twoDimensions_170 k1118 k1120 k25 k57 k1121 ykX8_run rfl rfl rfl rfl rfl rfl rfl rfl (nl rfl) ⟨nl rfl, nl rfl⟩ ⟨(nl rfl), (nl rfl)⟩ rfl (fun v9 w9 hu => ?_)
                  obtain ⟨cn1, f2_94, rfl, rfl, u_95, u_96⟩ := hu
                  refine v_is (wn := [(xv, aZ g 72000 fg), (h0, ob 8 [.ref xa, .ref xb, .ref xc, .ref xd, .ref xe, .ref xf, .ref xg, .int (iI vc), .int (iI vk), .int (iI vw), .ref xm, .ref xv, .int (iI vg), .ref xw, .int (iI cn1), .int (iI vi), .ref xq, .int (iI ve), .int (iI vf), .int (iI vu), .int (iI vl), .ref xr, .ref xh, .ref xo, .ref xp, .int (iI vr), .int (iI va), .int (iI vt), .int (iI vm), .int (iI vd), .int (iI vx)]), (xw, aI g 72000 f2_94), (xa, aI g 64 (lfT mW 64)), (xb, aI g 64 (lfT mB 64)), (xc, aI g 27 (lfT mWM 27)), (xd, aI g 27 (lfT mBM 27)), (xe, aI g 13 (lfT mBO 13))]) (cn := 0) (sn := 0) (sn2 := []) rfl rfl rfl rfl ?_
                  have hbr := bgt_run (k1 := cn1 - cm) (bk := bk) (w := vw) (a1 := a1) (a0 := a0) (by omega) hrs (by omega) (by omega) (by omega)
                  refine v_aload_n fx 4 dX8_twoDimensions_173 rfl rfl ?_
                  refine v_iload fx 0 dX8_twoDimensions_174 rfl rfl ?_
                  refine v_iload fx 3 dX8_twoDimensions_176 rfl rfl ?_
                  refine v_isub fx (a2 - a1) dX8_twoDimensions_178 (by rfl) rfl ?_
                  refine v_iload fx 8 dX8_twoDimensions_179 rfl rfl ?_
                  refine v_if_ne fx 188 dX8_twoDimensions_181 (by decide) rfl (by omega) (fun h_97 => ?_) (fun h_97 => ?_)
                  ·
                    refine v_iconst fx dX8_twoDimensions_188 rfl ?_
                    refine v_callV (As := [.int (iI (a2 - a1)), .int (iI 0)]) (rest := []) fx [1, 2, 3, 4, 5, 6, 7] [0] [(h0, ob 8 [.ref xa, .ref xb, .ref xc, .ref xd, .ref xe, .ref xf, .ref xg, .int (iI vc), .int (iI vk), .int (iI vw), .ref xm, .ref xv, .int (iI vg), .ref xw, .int (iI cn1), .int (iI vi), .ref xq, .int (iI ve), .int (iI vf), .int (iI vu), .int (iI vl), .ref xr, .ref xh, .ref xo, .ref xp, .int (iI vr), .int (iI va), .int (iI vt), .int (iI vm), .int (iI vd), .int (iI vx)]), (xw, aI g 72000 f2_94), (xa, aI g 64 (lfT mW 64)), (xb, aI g 64 (lfT mB 64)), (xc, aI g 27 (lfT mWM 27)), (xd, aI g 27 (lfT mBM 27)), (xe, aI g 13 (lfT mBO 13))] [(xv, aZ g 72000 fg)] 2 0 (c_X8_run l g h0 xa xb xc xd xe xf xg xm xv xw xq xr xh xo xp vc vk vw vg cn1 vi ve vf vu vl vr va vt vm vd vx f2_94 (a2 - a1) 0 (by first | omega | decide | assumption) (by first | omega | decide | assumption) (by first | omega | decide | assumption) (by first | omega | decide | assumption)) dX8_twoDimensions_189 k1118 k1120 k25 k57 k1121 ykX8_run rfl rfl rfl rfl rfl rfl rfl rfl (nl rfl) ⟨nl rfl, nl rfl⟩ ⟨(nl rfl), (nl rfl)⟩ rfl (fun v9 w9 hu => ?_)
                    obtain ⟨cn2, f2_98, rfl, rfl, u_99, u_100⟩ := hu
                    refine v_is (wn := [(xv, aZ g 72000 fg), (h0, ob 8 [.ref xa, .ref xb, .ref xc, .ref xd, .ref xe, .ref xf, .ref xg, .int (iI vc), .int (iI vk), .int (iI vw), .ref xm, .ref xv, .int (iI vg), .ref xw, .int (iI cn2), .int (iI vi), .ref xq, .int (iI ve), .int (iI vf), .int (iI vu), .int (iI vl), .ref xr, .ref xh, .ref xo, .ref xp, .int (iI vr), .int (iI va), .int (iI vt), .int (iI vm), .int (iI vd), .int (iI vx)]), (xw, aI g 72000 f2_98), (xa, aI g 64 (lfT mW 64)), (xb, aI g 64 (lfT mB 64)), (xc, aI g 27 (lfT mWM 27)), (xd, aI g 27 (lfT mBM 27)), (xe, aI g 13 (lfT mBO 13))]) (cn := 0) (sn := 0) (sn2 := []) rfl rfl rfl rfl ?_
                    have hbt := bgt_hor (k1 := cn1 - cm) (k2 := cn2 - cn1) (bk := bk) (a1 := a1) (w := vw) (a0 := a0) (by omega) hrs (by omega) ha2 (by omega) (by omega) (by omega)
                    refine v_iload fx 0 dX8_twoDimensions_192 rfl rfl ?_
                    refine v_istore_n fx [(3, .int (iI a2)), (8, .int (iI a2)), (7, .int (iI (a1 - q1))), (6, .int (iI q1)), (5, .int (iI a1)), (0, .ref h0), (1, .int (iI ba)), (2, .int (iI ab)), (4, .int (iI bk))] dX8_twoDimensions_194 (by decide) rfl rfl ?_
                    refine v_goto fx 5 dX8_twoDimensions_195 (by decide) ?_
                    refine v_ws [1, 2, 0, 3, 4, 5, 6, 7] [(h0, ob 8 [.ref xa, .ref xb, .ref xc, .ref xd, .ref xe, .ref xf, .ref xg, .int (iI vc), .int (iI vk), .int (iI vw), .ref xm, .ref xv, .int (iI vg), .ref xw, .int (iI cn2), .int (iI vi), .ref xq, .int (iI ve), .int (iI vf), .int (iI vu), .int (iI vl), .ref xr, .ref xh, .ref xo, .ref xp, .int (iI vr), .int (iI va), .int (iI vt), .int (iI vm), .int (iI vd), .int (iI vx)]), (xw, aI g 72000 f2_98), (xv, aZ g 72000 fg), (xa, aI g 64 (lfT mW 64)), (xb, aI g 64 (lfT mB 64)), (xc, aI g 27 (lfT mWM 27)), (xd, aI g 27 (lfT mBM 27)), (xe, aI g 13 (lfT mBO 13))] rfl rfl ?_
                    refine v_lv [5, 6, 7, 0, 8] [(0, .ref h0), (1, .int (iI ba)), (2, .int (iI ab)), (3, .int (iI a2)), (4, .int (iI bk))] rfl ?_
                    exact ihL5 a2 bk cn2 f2_98 (by omega) (by omega) (by omega) (by omega)
                  ·
                    refine v_iconst fx dX8_twoDimensions_184 rfl ?_
                    refine v_goto fx 189 dX8_twoDimensions_185 (by decide) ?_
                    refine v_callV (As := [.int (iI (a2 - a1)), .int (iI 1)]) (rest := []) fx [1, 2, 3, 4, 5, 6, 7] [0] [(h0, ob 8 [.ref xa, .ref xb, .ref xc, .ref xd, .ref xe, .ref xf, .ref xg, .int (iI vc), .int (iI vk), .int (iI vw), .ref xm, .ref xv, .int (iI vg), .ref xw, .int (iI cn1), .int (iI vi), .ref xq, .int (iI ve), .int (iI vf), .int (iI vu), .int (iI vl), .ref xr, .ref xh, .ref xo, .ref xp, .int (iI vr), .int (iI va), .int (iI vt), .int (iI vm), .int (iI vd), .int (iI vx)]), (xw, aI g 72000 f2_94), (xa, aI g 64 (lfT mW 64)), (xb, aI g 64 (lfT mB 64)), (xc, aI g 27 (lfT mWM 27)), (xd, aI g 27 (lfT mBM 27)), (xe, aI g 13 (lfT mBO 13))] [(xv, aZ g 72000 fg)] 2 0 (c_X8_run l g h0 xa xb xc xd xe xf xg xm xv xw xq xr xh xo xp vc vk vw vg cn1 vi ve vf vu vl vr va vt vm vd vx f2_94 (a2 - a1) 1 (by first | omega | decide | assumption) (by first | omega | decide | assumption) (by first | omega | decide | assumption) (by first | omega | decide | assumption)) dX8_twoDimensions_189 k1118 k1120 k25 k57 k1121 ykX8_run rfl rfl rfl rfl rfl rfl rfl rfl (nl rfl) ⟨nl rfl, nl rfl⟩ ⟨(nl rfl), (nl rfl)⟩ rfl (fun v9 w9 hu => ?_)
                    obtain ⟨cn2, f2_101, rfl, rfl, u_102, u_103⟩ := hu
                    refine v_is (wn := [(xv, aZ g 72000 fg), (h0, ob 8 [.ref xa, .ref xb, .ref xc, .ref xd, .ref xe, .ref xf, .ref xg, .int (iI vc), .int (iI vk), .int (iI vw), .ref xm, .ref xv, .int (iI vg), .ref xw, .int (iI cn2), .int (iI vi), .ref xq, .int (iI ve), .int (iI vf), .int (iI vu), .int (iI vl), .ref xr, .ref xh, .ref xo, .ref xp, .int (iI vr), .int (iI va), .int (iI vt), .int (iI vm), .int (iI vd), .int (iI vx)]), (xw, aI g 72000 f2_101), (xa, aI g 64 (lfT mW 64)), (xb, aI g 64 (lfT mB 64)), (xc, aI g 27 (lfT mWM 27)), (xd, aI g 27 (lfT mBM 27)), (xe, aI g 13 (lfT mBO 13))]) (cn := 0) (sn := 0) (sn2 := []) rfl rfl rfl rfl ?_
                    have hbt := bgt_hor (k1 := cn1 - cm) (k2 := cn2 - cn1) (bk := bk) (a1 := a1) (w := vw) (a0 := a0) (by omega) hrs (by omega) ha2 (by omega) (by omega) (by omega)
                    refine v_iload fx 0 dX8_twoDimensions_192 rfl rfl ?_
                    refine v_istore_n fx [(3, .int (iI a2)), (8, .int (iI a2)), (7, .int (iI (a1 - q1))), (6, .int (iI q1)), (5, .int (iI a1)), (0, .ref h0), (1, .int (iI ba)), (2, .int (iI ab)), (4, .int (iI bk))] dX8_twoDimensions_194 (by decide) rfl rfl ?_
                    refine v_goto fx 5 dX8_twoDimensions_195 (by decide) ?_
                    refine v_ws [1, 2, 0, 3, 4, 5, 6, 7] [(h0, ob 8 [.ref xa, .ref xb, .ref xc, .ref xd, .ref xe, .ref xf, .ref xg, .int (iI vc), .int (iI vk), .int (iI vw), .ref xm, .ref xv, .int (iI vg), .ref xw, .int (iI cn2), .int (iI vi), .ref xq, .int (iI ve), .int (iI vf), .int (iI vu), .int (iI vl), .ref xr, .ref xh, .ref xo, .ref xp, .int (iI vr), .int (iI va), .int (iI vt), .int (iI vm), .int (iI vd), .int (iI vx)]), (xw, aI g 72000 f2_101), (xv, aZ g 72000 fg), (xa, aI g 64 (lfT mW 64)), (xb, aI g 64 (lfT mB 64)), (xc, aI g 27 (lfT mWM 27)), (xd, aI g 27 (lfT mBM 27)), (xe, aI g 13 (lfT mBO 13))] rfl rfl ?_
                    refine v_lv [5, 6, 7, 0, 8] [(0, .ref h0), (1, .int (iI ba)), (2, .int (iI ab)), (3, .int (iI a2)), (4, .int (iI bk))] rfl ?_
                    exact ihL5 a2 bk cn2 f2_101 (by omega) (by omega) (by omega) (by omega)
            ·
              refine v_aload_n fx 3 dX8_twoDimensions_96 rfl rfl ?_
              refine v_iload fx 0 dX8_twoDimensions_97 rfl rfl ?_
              refine v_callV (As := [.int (iI (a1 - q1))]) (rest := []) fx [6, 0] [1, 2, 3, 4, 5, 7] [(h0, ob 8 [.ref xa, .ref xb, .ref xc, .ref xd, .ref xe, .ref xf, .ref xg, .int (iI vc), .int (iI vk), .int (iI vw), .ref xm, .ref xv, .int (iI vg), .ref xw, .int (iI b1), .int (iI vi), .ref xq, .int (iI ve), .int (iI vf), .int (iI vu), .int (iI vl), .ref xr, .ref xh, .ref xo, .ref xp, .int (iI vr), .int (iI va), .int (iI vt), .int (iI vm), .int (iI vd), .int (iI vx)]), (xw, aI g 72000 f1)] [(xa, aI g 64 (lfT mW 64)), (xb, aI g 64 (lfT mB 64)), (xc, aI g 27 (lfT mWM 27)), (xd, aI g 27 (lfT mBM 27)), (xe, aI g 13 (lfT mBO 13)), (xv, aZ g 72000 fg)] 1 0 (c_X8_vertical l g h0 xa xb xc xd xe xf xg xm xv xw xq xr xh xo xp vc vk vw vg b1 vi ve vf vu vl vr va vt vm vd vx f1 (a1 - q1) (by first | omega | decide | assumption) (by first | omega | decide | assumption) (by first | omega | decide | assumption)) dX8_twoDimensions_99 k1142 k1144 k31 k57 k1145 ykX8_vertical rfl rfl rfl rfl rfl rfl rfl rfl (nl rfl) ⟨nl rfl, nl rfl⟩ ⟨(nl rfl), (nl rfl)⟩ rfl (fun v9 w9 hu => ?_)
              obtain ⟨b2_104, f2_105, rfl, rfl, u_106⟩ := hu
              refine v_is (wn := [(xa, aI g 64 (lfT mW 64)), (xb, aI g 64 (lfT mB 64)), (xc, aI g 27 (lfT mWM 27)), (xd, aI g 27 (lfT mBM 27)), (xe, aI g 13 (lfT mBO 13)), (xv, aZ g 72000 fg), (h0, ob 8 [.ref xa, .ref xb, .ref xc, .ref xd, .ref xe, .ref xf, .ref xg, .int (iI vc), .int (iI vk), .int (iI vw), .ref xm, .ref xv, .int (iI vg), .ref xw, .int (iI b2_104), .int (iI vi), .ref xq, .int (iI ve), .int (iI vf), .int (iI vu), .int (iI vl), .ref xr, .ref xh, .ref xo, .ref xp, .int (iI vr), .int (iI va), .int (iI vt), .int (iI vm), .int (iI vd), .int (iI vx)]), (xw, aI g 72000 f2_105)]) (cn := 0) (sn := 0) (sn2 := []) rfl rfl rfl rfl ?_
              have hbt := bgt_to (a0 := a0) (b := a1) (w := vw) (by omega) (by omega) (by omega)
              refine v_iload fx 2 dX8_twoDimensions_102 rfl rfl ?_
              refine v_istore_n fx [(3, .int (iI a1)), (7, .int (iI (a1 - q1))), (6, .int (iI q1)), (5, .int (iI a1)), (0, .ref h0), (1, .int (iI ba)), (2, .int (iI ab)), (4, .int (iI bk))] dX8_twoDimensions_104 (by decide) rfl rfl ?_
              refine v_iload fx 7 dX8_twoDimensions_105 rfl rfl ?_
              refine v_if_ne fx 114 dX8_twoDimensions_107 (by decide) rfl (by omega) (fun h_107 => ?_) (fun h_107 => ?_)
              ·
                refine v_iconst fx dX8_twoDimensions_114 rfl ?_
                refine v_istore fx [(4, .int (iI 0)), (3, .int (iI a1)), (7, .int (iI (a1 - q1))), (6, .int (iI q1)), (5, .int (iI a1)), (0, .ref h0), (1, .int (iI ba)), (2, .int (iI ab))] dX8_twoDimensions_115 (by decide) rfl rfl ?_
                refine v_goto fx 195 dX8_twoDimensions_117 (by decide) ?_
                refine v_goto fx 5 dX8_twoDimensions_195 (by decide) ?_
                refine v_ws [6, 7, 5, 0, 1, 2, 3, 4] [(h0, ob 8 [.ref xa, .ref xb, .ref xc, .ref xd, .ref xe, .ref xf, .ref xg, .int (iI vc), .int (iI vk), .int (iI vw), .ref xm, .ref xv, .int (iI vg), .ref xw, .int (iI b2_104), .int (iI vi), .ref xq, .int (iI ve), .int (iI vf), .int (iI vu), .int (iI vl), .ref xr, .ref xh, .ref xo, .ref xp, .int (iI vr), .int (iI va), .int (iI vt), .int (iI vm), .int (iI vd), .int (iI vx)]), (xw, aI g 72000 f2_105), (xv, aZ g 72000 fg), (xa, aI g 64 (lfT mW 64)), (xb, aI g 64 (lfT mB 64)), (xc, aI g 27 (lfT mWM 27)), (xd, aI g 27 (lfT mBM 27)), (xe, aI g 13 (lfT mBO 13))] rfl rfl ?_
                refine v_lv [5, 6, 7, 1, 0] [(0, .ref h0), (1, .int (iI ba)), (2, .int (iI ab)), (3, .int (iI a1)), (4, .int (iI 0))] rfl ?_
                exact ihL5 a1 0 b2_104 f2_105 (by omega) (by omega) (by omega) (by omega)
              ·
                refine v_iconst fx dX8_twoDimensions_110 rfl ?_
                refine v_goto fx 115 dX8_twoDimensions_111 (by decide) ?_
                refine v_istore fx [(4, .int (iI 1)), (3, .int (iI a1)), (7, .int (iI (a1 - q1))), (6, .int (iI q1)), (5, .int (iI a1)), (0, .ref h0), (1, .int (iI ba)), (2, .int (iI ab))] dX8_twoDimensions_115 (by decide) rfl rfl ?_
                refine v_goto fx 195 dX8_twoDimensions_117 (by decide) ?_
                refine v_goto fx 5 dX8_twoDimensions_195 (by decide) ?_
                refine v_ws [6, 7, 5, 0, 1, 2, 3, 4] [(h0, ob 8 [.ref xa, .ref xb, .ref xc, .ref xd, .ref xe, .ref xf, .ref xg, .int (iI vc), .int (iI vk), .int (iI vw), .ref xm, .ref xv, .int (iI vg), .ref xw, .int (iI b2_104), .int (iI vi), .ref xq, .int (iI ve), .int (iI vf), .int (iI vu), .int (iI vl), .ref xr, .ref xh, .ref xo, .ref xp, .int (iI vr), .int (iI va), .int (iI vt), .int (iI vm), .int (iI vd), .int (iI vx)]), (xw, aI g 72000 f2_105), (xv, aZ g 72000 fg), (xa, aI g 64 (lfT mW 64)), (xb, aI g 64 (lfT mB 64)), (xc, aI g 27 (lfT mWM 27)), (xd, aI g 27 (lfT mBM 27)), (xe, aI g 13 (lfT mBO 13))] rfl rfl ?_
                refine v_lv [5, 6, 7, 1, 0] [(0, .ref h0), (1, .int (iI ba)), (2, .int (iI ab)), (3, .int (iI a1)), (4, .int (iI 1))] rfl ?_
                exact ihL5 a1 1 b2_104 f2_105 (by omega) (by omega) (by omega) (by omega)
        ·
          refine v_aload_n fx 3 dX8_twoDimensions_62 rfl rfl ?_
          refine v_iconst fx dX8_twoDimensions_63 rfl ?_
          refine v_iconst fx dX8_twoDimensions_64 rfl ?_
          refine v_callV (As := [.int (iI 1), .int (iI 4)]) (rest := []) fx [6, 0] [1, 2, 3, 4, 5, 7] [(h0, ob 8 [.ref xa, .ref xb, .ref xc, .ref xd, .ref xe, .ref xf, .ref xg, .int (iI vc), .int (iI vk), .int (iI vw), .ref xm, .ref xv, .int (iI vg), .ref xw, .int (iI b1), .int (iI vi), .ref xq, .int (iI ve), .int (iI vf), .int (iI vu), .int (iI vl), .ref xr, .ref xh, .ref xo, .ref xp, .int (iI vr), .int (iI va), .int (iI vt), .int (iI vm), .int (iI vd), .int (iI vx)]), (xw, aI g 72000 f1)] [(xa, aI g 64 (lfT mW 64)), (xb, aI g 64 (lfT mB 64)), (xc, aI g 27 (lfT mWM 27)), (xd, aI g 27 (lfT mBM 27)), (xe, aI g 13 (lfT mBO 13)), (xv, aZ g 72000 fg)] 2 0 (c_X8_number l g h0 xa xb xc xd xe xf xg xm xv xw xq xr xh xo xp vc vk vw vg b1 vi ve vf vu vl vr va vt vm vd vx f1 (iI 1) 4 (by first | omega | decide | assumption) (by first | omega | decide | assumption)) dX8_twoDimensions_65 k1106 k1108 k22 k57 k1109 ykX8_number rfl rfl rfl rfl rfl rfl rfl rfl (nl rfl) ⟨nl rfl, nl rfl⟩ ⟨(nl rfl), (nl rfl)⟩ rfl (fun v9 w9 hu => ?_)
          obtain ⟨b2_108, f2_109, rfl, rfl, u_110⟩ := hu
          refine v_is (wn := [(xa, aI g 64 (lfT mW 64)), (xb, aI g 64 (lfT mB 64)), (xc, aI g 27 (lfT mWM 27)), (xd, aI g 27 (lfT mBM 27)), (xe, aI g 13 (lfT mBO 13)), (xv, aZ g 72000 fg), (h0, ob 8 [.ref xa, .ref xb, .ref xc, .ref xd, .ref xe, .ref xf, .ref xg, .int (iI vc), .int (iI vk), .int (iI vw), .ref xm, .ref xv, .int (iI vg), .ref xw, .int (iI b2_108), .int (iI vi), .ref xq, .int (iI ve), .int (iI vf), .int (iI vu), .int (iI vl), .ref xr, .ref xh, .ref xo, .ref xp, .int (iI vr), .int (iI va), .int (iI vt), .int (iI vm), .int (iI vd), .int (iI vx)]), (xw, aI g 72000 f2_109)]) (cn := 0) (sn := 0) (sn2 := []) rfl rfl rfl rfl ?_
          refine v_aload_n fx 3 dX8_twoDimensions_68 rfl rfl ?_
          refine v_aload_n fx 3 dX8_twoDimensions_69 rfl rfl ?_
          refine v_get fx 6 11 inX8 k1007 dX8_twoDimensions_70 rfl rfl (by decide) rfl rfl rfl ?_
          refine v_iload_n fx 5 dX8_twoDimensions_73 rfl rfl ?_
          refine v_iload fx 1 dX8_twoDimensions_74 rfl rfl ?_
          refine v_callV (As := [.ref xv, .int (iI ab), .int (iI q1)]) (rest := []) fx [6, 5] [0, 1, 2, 3, 4, 7] [(h0, ob 8 [.ref xa, .ref xb, .ref xc, .ref xd, .ref xe, .ref xf, .ref xg, .int (iI vc), .int (iI vk), .int (iI vw), .ref xm, .ref xv, .int (iI vg), .ref xw, .int (iI b2_108), .int (iI vi), .ref xq, .int (iI ve), .int (iI vf), .int (iI vu), .int (iI vl), .ref xr, .ref xh, .ref xo, .ref xp, .int (iI vr), .int (iI va), .int (iI vt), .int (iI vm), .int (iI vd), .int (iI vx)]), (xv, aZ g 72000 fg)] [(xa, aI g 64 (lfT mW 64)), (xb, aI g 64 (lfT mB 64)), (xc, aI g 27 (lfT mWM 27)), (xd, aI g 27 (lfT mBM 27)), (xe, aI g 13 (lfT mBO 13)), (xw, aI g 72000 f2_109)] 3 0 (c_X8_b2 l g h0 xa xb xc xd xe xf xg xm xv xw xq xr xh xo xp vc vk vw vg b2_108 vi ve vf vu vl vr va vt vm vd vx xv 72000 fg ab q1 (by first | omega | decide | assumption) (by first | omega | decide | assumption) (by first | omega | decide | assumption)) dX8_twoDimensions_76 k1138 k1140 k30 k57 k1141 ykX8_b2 rfl rfl rfl rfl rfl rfl rfl rfl (nl rfl) ⟨nl rfl, nl rfl⟩ ⟨(nl rfl), (nl rfl)⟩ rfl (fun v9 w9 hu => ?_)
          obtain ⟨q3, rfl, rfl, u_111⟩ := hu
          refine v_is (wn := [(xa, aI g 64 (lfT mW 64)), (xb, aI g 64 (lfT mB 64)), (xc, aI g 27 (lfT mWM 27)), (xd, aI g 27 (lfT mBM 27)), (xe, aI g 13 (lfT mBO 13)), (xw, aI g 72000 f2_109), (h0, ob 8 [.ref xa, .ref xb, .ref xc, .ref xd, .ref xe, .ref xf, .ref xg, .int (iI vc), .int (iI vk), .int (iI vw), .ref xm, .ref xv, .int (iI vg), .ref xw, .int (iI b2_108), .int (iI vi), .ref xq, .int (iI ve), .int (iI vf), .int (iI vu), .int (iI vl), .ref xr, .ref xh, .ref xo, .ref xp, .int (iI vr), .int (iI va), .int (iI vt), .int (iI vm), .int (iI vd), .int (iI vx)]), (xv, aZ g 72000 fg)]) (cn := 0) (sn := 0) (sn2 := [.int (iI q3)]) rfl rfl rfl rfl ?_
          have hbt := bgt_to (a0 := a0) (b := q3) (w := vw) (by omega) (by omega) (by omega)
          refine v_istore_n fx [(3, .int (iI q3)), (7, .int (iI (a1 - q1))), (6, .int (iI q1)), (5, .int (iI a1)), (0, .ref h0), (1, .int (iI ba)), (2, .int (iI ab)), (4, .int (iI bk))] dX8_twoDimensions_79 (by decide) rfl rfl ?_
          refine v_goto fx 195 dX8_twoDimensions_80 (by decide) ?_
          refine v_goto fx 5 dX8_twoDimensions_195 (by decide) ?_
          refine v_ws [6, 5, 7, 0, 1, 2, 3, 4] [(h0, ob 8 [.ref xa, .ref xb, .ref xc, .ref xd, .ref xe, .ref xf, .ref xg, .int (iI vc), .int (iI vk), .int (iI vw), .ref xm, .ref xv, .int (iI vg), .ref xw, .int (iI b2_108), .int (iI vi), .ref xq, .int (iI ve), .int (iI vf), .int (iI vu), .int (iI vl), .ref xr, .ref xh, .ref xo, .ref xp, .int (iI vr), .int (iI va), .int (iI vt), .int (iI vm), .int (iI vd), .int (iI vx)]), (xw, aI g 72000 f2_109), (xv, aZ g 72000 fg), (xa, aI g 64 (lfT mW 64)), (xb, aI g 64 (lfT mB 64)), (xc, aI g 27 (lfT mWM 27)), (xd, aI g 27 (lfT mBM 27)), (xe, aI g 13 (lfT mBO 13))] rfl rfl ?_
          refine v_lv [4, 5, 6, 0, 7] [(0, .ref h0), (1, .int (iI ba)), (2, .int (iI ab)), (3, .int (iI q3)), (4, .int (iI bk))] rfl ?_
          exact ihL5 q3 bk b2_108 f2_109 (by omega) (by omega) (by omega) (by omega)
  refine v_lv [2, 3, 4, 1, 0] [(0, .ref h0), (1, .int (iI ba)), (2, .int (iI ab)), (3, .int (iI (-1))), (4, .int (iI 0))] rfl ?_
  exact L5 _ (-1) 0 vb f (by omega) (by omega) (by rw [bgt_0]; omega) (Nat.lt_succ_self _)
