/-! THE REFERENCE: rows and all that is encoded -/
theorem one_0R {f : Nat → Int32} {tu c : Int} {T : List Bool} {A : Int → Int} (h : EncR f tu c T) : EncR f tu c (T ++ oneUp A (0 : Int).toNat) := by
  show EncR f tu c (T ++ [])
  rw [List.append_nil]; exact h
theorem MinW_0 {w : Int} {A : Int → Int} {ln : Int} {fg : Nat → Int32} {ab : Int} (h : SmpB w A ln fg ab) (hw : 0 ≤ w) : MinW w A (-1) 0 := fun _ => ⟨Int.le_refl _, by have := (SmpB_b h (k := 0) (Int.le_refl _) hw).1; omega, fun j h1 h2 => by omega⟩
theorem nb1_0le {n bk : Int} (h : 0 ≤ n) : 0 ≤ nb1 n bk := by have := nb1_b n bk; omega
theorem bit_0 {f : Nat → Int32} {tu c : Int} {T : List Bool} {j : Int} (h : EncR f tu c ((T ++ List.replicate j.toNat false) ++ [decide ((0 : Int) = 1)])) (h0 : 0 ≤ j) : EncR f tu c (T ++ List.replicate (j + 1).toNat false) := by
  rw [show (j + 1).toNat = j.toNat + 1 by omega, List.replicate_succ', ← List.append_assoc]
  exact h
theorem preB_l {kd one : Int} (h : 0 ≤ kd ∧ kd ≤ 2) : (kd = 0 ∧ ((preB kd one).length : Int) = 12) ∨ (kd = 1 ∧ ((preB kd one).length : Int) = 13) ∨ (kd = 2 ∧ ((preB kd one).length : Int) = 0) := by
  have h1 : (codeB 4097).length = 12 := by decide +kernel
  have h2 : ∀ b : Int, b = 1 ∨ b ≠ 1 → (codeB (if b = 1 then 3 else 2)).length = 1 := fun b hb => by
    rcases hb with hb | hb
    · rw [if_pos hb]; decide +kernel
    · rw [if_neg hb]; decide +kernel
  unfold preB
  rcases (show kd = 0 ∨ kd = 1 ∨ kd = 2 by omega) with rfl | rfl | rfl
  · left; rw [if_pos (by decide), if_neg (by decide), List.append_nil, h1]; exact ⟨rfl, rfl⟩
  · right; left; rw [if_pos (by decide), if_pos rfl, List.length_append, h1, h2 one (by omega)]; exact ⟨rfl, rfl⟩
  · right; right; rw [if_neg (by decide), if_neg (by decide)]; exact ⟨rfl, rfl⟩
theorem fill_R2 {P R : List Bool} {kd o cr b1 j fl : Int} (hE : cr = ((P ++ (preB kd o ++ R)).length : Int)) (hP : b1 = P.length) (hj : (kd < 2 ∧ 0 ≤ j ∧ (j = 0 ∨ cr + j - (b1 + ((preB kd o).length : Int)) ≤ fl) ∧ fl ≤ cr + j - (b1 + ((preB kd o).length : Int))) ∨ (¬ kd < 2 ∧ j = 0)) : List.replicate j.toNat false = fillB kd fl R := by
  unfold fillB
  rw [List.length_append, List.length_append] at hE
  by_cases q : kd < 2
  · rw [if_pos q]; congr 1; omega
  · rw [if_neg q]; congr 1; omega
theorem preB_0 {one : Int} : codeB 4097 = preB 0 one := by unfold preB; rw [if_pos (by decide), if_neg (by decide), List.append_nil]
theorem preB_2 {one : Int} : ([] : List Bool) = preB 2 one := by unfold preB; rw [if_neg (by decide), if_neg (by decide)]; rfl
theorem preB_1 {one x : Int} (h : (one = 1 ∧ x = 1) ∨ (one = 0 ∧ x = 0)) : codeB 4097 ++ [decide (x = 1)] = preB 1 one := by
  unfold preB; rw [if_pos (by decide), if_pos rfl]
  rcases h with ⟨rfl, rfl⟩ | ⟨rfl, rfl⟩
  · rw [if_pos rfl]; decide +kernel
  · rw [if_neg (by decide)]; decide +kernel
theorem one_F {kd y : Int} (h : kd = 0 ∨ (kd = 1 ∧ y % 4 = 0)) : oneF kd y = 1 := by unfold oneF; rw [if_pos h]
theorem two_F {kd y : Int} (h : ¬ (kd = 0 ∨ (kd = 1 ∧ y % 4 = 0))) : oneF kd y = 0 := by unfold oneF; rw [if_neg h]
/-- the samples of all rows -/
def SmpR (w : Int) (A : Int → Int → Int) (ln : Int → Int) (fg : Nat → Int32) (c : Int) : Prop := (∀ y, 0 ≤ y → y < c → SmpA w (A y) (ln y) fg (3000 * y)) ∧ ∀ k, A (-1) k = w
theorem SmpR_at {w : Int} {A : Int → Int → Int} {ln : Int → Int} {fg : Nat → Int32} {c y : Int} (h : SmpR w A ln fg c) (hy : 0 ≤ y ∧ y < c) : SmpA w (A y) (ln y) fg (3000 * y) := h.1 y hy.1 hy.2
theorem SmpR_ab {w : Int} {A : Int → Int → Int} {ln : Int → Int} {fg : Nat → Int32} {c y ab : Int} (h : SmpR w A ln fg c) (hy : 0 ≤ y ∧ y < c) (ha : (y = 0 ∧ ab = -1) ∨ (y ≠ 0 ∧ ab = 3000 * (y - 1))) : SmpB w (A (y - 1)) (ln (y - 1)) fg ab := by
  rcases ha with ⟨h1, h2⟩ | ⟨h1, h2⟩
  · exact ⟨fun q => by omega, fun _ k => by rw [show y - 1 = -1 by omega]; exact h.2 k⟩
  · exact ⟨fun _ => by rw [h2]; exact h.1 (y - 1) (by omega) (by omega), fun q => by omega⟩
theorem end_R0 {P : List Bool} : (((((P ++ codeB 4097) ++ codeB 4097) ++ codeB 4097) ++ codeB 4097) ++ codeB 4097) ++ codeB 4097 = P ++ endB 0 := by
  have := end_6 (P := P) (mx := 0) (by decide)
  rw [← preB_0] at this
  exact this
theorem end_R1 {P : List Bool} : (((((((((((P ++ codeB 4097) ++ [decide ((1 : Int) = 1)]) ++ codeB 4097) ++ [decide ((1 : Int) = 1)]) ++ codeB 4097) ++ [decide ((1 : Int) = 1)]) ++ codeB 4097) ++ [decide ((1 : Int) = 1)]) ++ codeB 4097) ++ [decide ((1 : Int) = 1)]) ++ codeB 4097) ++ [decide ((1 : Int) = 1)] = P ++ endB 1 := by
  have := end_6 (P := P) (mx := 1) (by decide)
  rw [← preB_1 (one := 1) (x := 1) (Or.inl ⟨rfl, rfl⟩)] at this
  rw [← this]
  simp only [List.append_assoc]
abbrev po_c_X8_oneDimension_e (g : GG) (h0 : Nat) (xa : Nat) (xb : Nat) (xc : Nat) (xd : Nat) (xe : Nat) (xf : Nat) (xg : Nat) (xm : Nat) (xv : Nat) (xw : Nat) (xq : Nat) (xr : Nat) (xh : Nat) (xo : Nat) (xp : Nat) (vc : Int) (vk : Int) (vw : Int) (vg : Int) (vb : Int) (vi : Int) (ve : Int) (vf : Int) (vu : Int) (vl : Int) (vr : Int) (va : Int) (vt : Int) (vm : Int) (vd : Int) (vx : Int) (f : Nat → Int32) (fg : Nat → Int32) (ba : Int) (T : List Bool) (A : Int → Int) (ln : Int) : Option Value → va_W → Prop := fun v8 w8 => ∃ b2 : Int, ∃ f2 : Nat → Int32, v8 = none ∧ w8 = [(h0, ob 8 [.ref xa, .ref xb, .ref xc, .ref xd, .ref xe, .ref xf, .ref xg, .int (iI vc), .int (iI vk), .int (iI vw), .ref xm, .ref xv, .int (iI vg), .ref xw, .int (iI b2), .int (iI vi), .ref xq, .int (iI ve), .int (iI vf), .int (iI vu), .int (iI vl), .ref xr, .ref xh, .ref xo, .ref xp, .int (iI vr), .int (iI va), .int (iI vt), .int (iI vm), .int (iI vd), .int (iI vx)]), (xw, aI g 72000 f2), (xv, aZ g 72000 fg), (xa, aI g 64 (lfT mW 64)), (xb, aI g 64 (lfT mB 64)), (xc, aI g 27 (lfT mWM 27)), (xd, aI g 27 (lfT mBM 27)), (xe, aI g 13 (lfT mBO 13))] ∧ (vb ≤ b2 ∧ b2 ≤ vb + 7 * vw + 30) ∧ (EncR f2 (7 - 7 * vl) b2 (T ++ oneUp A (ln + 1).toNat))
set_option maxHeartbeats 4000000 in
set_option maxRecDepth 100000 in
theorem c_X8_oneDimension_e (l : Launch) (g : GG) (h0 : Nat) (xa : Nat) (xb : Nat) (xc : Nat) (xd : Nat) (xe : Nat) (xf : Nat) (xg : Nat) (xm : Nat) (xv : Nat) (xw : Nat) (xq : Nat) (xr : Nat) (xh : Nat) (xo : Nat) (xp : Nat) (vc : Int) (vk : Int) (vw : Int) (vg : Int) (vb : Int) (vi : Int) (ve : Int) (vf : Int) (vu : Int) (vl : Int) (vr : Int) (va : Int) (vt : Int) (vm : Int) (vd : Int) (vx : Int) (f : Nat → Int32) (fg : Nat → Int32) (ba : Int) (T : List Bool) (A : Int → Int) (ln : Int) (hp0 : 0 ≤ vb ∧ vb + 7 * vw + 80 ≤ 576000) (hp1 : 0 ≤ vl ∧ vl ≤ 1) (hp2 : 1 ≤ vw ∧ vw ≤ 3000) (hp3 : 0 ≤ ba ∧ ba + 3000 ≤ 72000) (hp4 : SmpA vw A ln fg ba) (hp5 : EncR f (7 - 7 * vl) vb T) : Ct l g yX8_oneDimension (wM yX8_oneDimension cX8_oneDimension 5 none) (rmD 4 0 0) [.ref h0, .int (iI ba)] [(h0, ob 8 [.ref xa, .ref xb, .ref xc, .ref xd, .ref xe, .ref xf, .ref xg, .int (iI vc), .int (iI vk), .int (iI vw), .ref xm, .ref xv, .int (iI vg), .ref xw, .int (iI vb), .int (iI vi), .ref xq, .int (iI ve), .int (iI vf), .int (iI vu), .int (iI vl), .ref xr, .ref xh, .ref xo, .ref xp, .int (iI vr), .int (iI va), .int (iI vt), .int (iI vm), .int (iI vd), .int (iI vx)]), (xw, aI g 72000 f), (xv, aZ g 72000 fg), (xa, aI g 64 (lfT mW 64)), (xb, aI g 64 (lfT mB 64)), (xc, aI g 27 (lfT mWM 27)), (xd, aI g 27 (lfT mBM 27)), (xe, aI g 13 (lfT mBO 13))] (po_c_X8_oneDimension_e g h0 xa xb xc xd xe xf xg xm xv xw xq xr xh xo xp vc vk vw vg vb vi ve vf vu vl vr va vt vm vd vx f fg ba T A ln) := by
  refine Ct_of (by decide +kernel) (Nat.le_of_ble_eq_true rfl) ?_
  intro p9 e9 s9 m9 ag9 bl9 mt9 c9 A9 fx hr hnm
  have hl0 := hp4.1
  refine v_iconst fx dX8_oneDimension_0 rfl ?_
  refine v_istore_n fx [(2, .int (iI 0)), (0, .ref h0), (1, .int (iI ba))] dX8_oneDimension_1 (by decide) rfl rfl ?_
  refine v_iconst fx dX8_oneDimension_2 rfl ?_
  refine v_istore_n fx [(3, .int (iI 0)), (2, .int (iI 0)), (0, .ref h0), (1, .int (iI ba))] dX8_oneDimension_3 (by decide) rfl rfl ?_
  have L4 : ∀ (N : Nat) (x : Int) (bk : Int) (k : Int) (b1 : Int) (f1 : Nat → Int32), (0 ≤ x ∧ x ≤ vw) → (bk = k % 2 ∧ 0 ≤ k) → (x = loA A k) → ((k = 0 ∧ b1 = vb) ∨ (1 ≤ k ∧ vb ≤ b1 ∧ b1 ≤ vb + 7 * x + 10)) → (EncR f1 (7 - 7 * vl) b1 (T ++ oneUp A k.toNat)) → (k ≤ ln + 1) → ((ln + 1 - k).toNat) < N → V p9 l e9 (rmD 4 0 0) s9 m9 ag9 bl9 mt9 c9 5 g A9 (MQ bl9 (cQ g (po_c_X8_oneDimension_e g h0 xa xb xc xd xe xf xg xm xv xw xq xr xh xo xp vc vk vw vg vb vi ve vf vu vl vr va vt vm vd vx f fg ba T A ln) A9) ag9 s9 0 0 A9) [(h0, ob 8 [.ref xa, .ref xb, .ref xc, .ref xd, .ref xe, .ref xf, .ref xg, .int (iI vc), .int (iI vk), .int (iI vw), .ref xm, .ref xv, .int (iI vg), .ref xw, .int (iI b1), .int (iI vi), .ref xq, .int (iI ve), .int (iI vf), .int (iI vu), .int (iI vl), .ref xr, .ref xh, .ref xo, .ref xp, .int (iI vr), .int (iI va), .int (iI vt), .int (iI vm), .int (iI vd), .int (iI vx)]), (xw, aI g 72000 f1), (xv, aZ g 72000 fg), (xa, aI g 64 (lfT mW 64)), (xb, aI g 64 (lfT mB 64)), (xc, aI g 27 (lfT mWM 27)), (xd, aI g 27 (lfT mBM 27)), (xe, aI g 13 (lfT mBO 13))] 0 0 [(0, .ref h0), (1, .int (iI ba)), (2, .int (iI x)), (3, .int (iI bk))] 4 [] := by
    intro N
    induction N with
    | zero => intro x bk k b1 f1 hi4_0 hi4_1 hi4_2 hi4_3 hi4_4 hi4_5 hN; exact absurd hN (Nat.not_lt_zero _)
    | succ N ihL4 =>
      intro x bk k b1 f1 hi4_0 hi4_1 hi4_2 hi4_3 hi4_4 hi4_5 hN4
      have hlo := lo_lt hp4 hi4_1.2 (by omega)
      rw [← hi4_2] at hlo
      refine v_iload_n fx 2 dX8_oneDimension_4 rfl rfl ?_
      refine v_aload_n fx 0 dX8_oneDimension_5 rfl rfl ?_
      refine v_get fx 0 9 inX8 k1005 dX8_oneDimension_6 rfl rfl (by decide) rfl rfl rfl ?_
      refine v_icmp_ge fx 68 dX8_oneDimension_9 (by decide) rfl (by omega) (by omega) (fun h_1 => ?_) (fun h_1 => ?_)
      ·
        exact v_vret fx [(h0, ob 8 [.ref xa, .ref xb, .ref xc, .ref xd, .ref xe, .ref xf, .ref xg, .int (iI vc), .int (iI vk), .int (iI vw), .ref xm, .ref xv, .int (iI vg), .ref xw, .int (iI b1), .int (iI vi), .ref xq, .int (iI ve), .int (iI vf), .int (iI vu), .int (iI vl), .ref xr, .ref xh, .ref xo, .ref xp, .int (iI vr), .int (iI va), .int (iI vt), .int (iI vm), .int (iI vd), .int (iI vx)]), (xw, aI g 72000 f1), (xv, aZ g 72000 fg), (xa, aI g 64 (lfT mW 64)), (xb, aI g 64 (lfT mB 64)), (xc, aI g 27 (lfT mWM 27)), (xd, aI g 27 (lfT mBM 27)), (xe, aI g 13 (lfT mBO 13))] [0, 1, 2, 3, 4, 5, 6, 7] hr dX8_oneDimension_68 rfl rfl (nl rfl) (nl rfl) ⟨b1, f1, rfl, rfl, (by first | omega | rfl | assumption), (by rw [show ln + 1 = k by omega]; exact hi4_4)⟩
      ·
        refine v_iload_n fx 2 dX8_oneDimension_12 rfl rfl ?_
        refine v_istore fx [(4, .int (iI x)), (0, .ref h0), (1, .int (iI ba)), (2, .int (iI x)), (3, .int (iI bk))] dX8_oneDimension_13 (by decide) rfl rfl ?_
        have hkn := hlo.resolve_right (by omega)
        have L15 : ∀ (N : Nat) (t : Int), (x ≤ t ∧ t ≤ A k) → ((vw - t).toNat) < N → V p9 l e9 (rmD 4 0 0) s9 m9 ag9 bl9 mt9 c9 5 g A9 (MQ bl9 (cQ g (po_c_X8_oneDimension_e g h0 xa xb xc xd xe xf xg xm xv xw xq xr xh xo xp vc vk vw vg vb vi ve vf vu vl vr va vt vm vd vx f fg ba T A ln) A9) ag9 s9 0 0 A9) [(h0, ob 8 [.ref xa, .ref xb, .ref xc, .ref xd, .ref xe, .ref xf, .ref xg, .int (iI vc), .int (iI vk), .int (iI vw), .ref xm, .ref xv, .int (iI vg), .ref xw, .int (iI b1), .int (iI vi), .ref xq, .int (iI ve), .int (iI vf), .int (iI vu), .int (iI vl), .ref xr, .ref xh, .ref xo, .ref xp, .int (iI vr), .int (iI va), .int (iI vt), .int (iI vm), .int (iI vd), .int (iI vx)]), (xw, aI g 72000 f1), (xv, aZ g 72000 fg), (xa, aI g 64 (lfT mW 64)), (xb, aI g 64 (lfT mB 64)), (xc, aI g 27 (lfT mWM 27)), (xd, aI g 27 (lfT mBM 27)), (xe, aI g 13 (lfT mBO 13))] 0 0 [(0, .ref h0), (1, .int (iI ba)), (2, .int (iI x)), (3, .int (iI bk)), (4, .int (iI t))] 15 [] := by
          intro N
          induction N with
          | zero => intro t hi15_0 hN; exact absurd hN (Nat.not_lt_zero _)
          | succ N ihL15 =>
            intro t hi15_0 hN15
            refine v_iload fx 4 dX8_oneDimension_15 rfl rfl ?_
            refine v_aload_n fx 0 dX8_oneDimension_17 rfl rfl ?_
            refine v_get fx 0 9 inX8 k1005 dX8_oneDimension_18 rfl rfl (by decide) rfl rfl rfl ?_
            refine v_icmp_ge fx 43 dX8_oneDimension_21 (by decide) rfl (by omega) (by omega) (fun h_2 => ?_) (fun h_2 => ?_)
            ·
              have htA : t = A k := by omega
              refine v_aload_n fx 0 dX8_oneDimension_43 rfl rfl ?_
              refine v_iload fx 4 dX8_oneDimension_44 rfl rfl ?_
              refine v_iload_n fx 2 dX8_oneDimension_46 rfl rfl ?_
              refine v_isub fx (t - x) dX8_oneDimension_47 (by rfl) rfl ?_
              refine v_iload_n fx 3 dX8_oneDimension_48 rfl rfl ?_
              refine v_callV (As := [.int (iI (t - x)), .int (iI bk)]) (rest := []) fx [0, 1, 3, 4, 5, 6, 7] [2] [(h0, ob 8 [.ref xa, .ref xb, .ref xc, .ref xd, .ref xe, .ref xf, .ref xg, .int (iI vc), .int (iI vk), .int (iI vw), .ref xm, .ref xv, .int (iI vg), .ref xw, .int (iI b1), .int (iI vi), .ref xq, .int (iI ve), .int (iI vf), .int (iI vu), .int (iI vl), .ref xr, .ref xh, .ref xo, .ref xp, .int (iI vr), .int (iI va), .int (iI vt), .int (iI vm), .int (iI vd), .int (iI vx)]), (xw, aI g 72000 f1), (xa, aI g 64 (lfT mW 64)), (xb, aI g 64 (lfT mB 64)), (xc, aI g 27 (lfT mWM 27)), (xd, aI g 27 (lfT mBM 27)), (xe, aI g 13 (lfT mBO 13))] [(xv, aZ g 72000 fg)] 2 0 (c_X8_run_e l g h0 xa xb xc xd xe xf xg xm xv xw xq xr xh xo xp vc vk vw vg b1 vi ve vf vu vl vr va vt vm vd vx f1 (t - x) bk (T ++ oneUp A k.toNat) (by first | omega | decide | assumption) (by first | omega | decide | assumption) (by first | omega | decide | assumption) (by first | omega | decide | assumption) (by exact hi4_4)) dX8_oneDimension_49 k1118 k1120 k25 k57 k1121 ykX8_run rfl rfl rfl rfl rfl rfl rfl rfl (nl rfl) ⟨nl rfl, nl rfl⟩ ⟨(nl rfl), (nl rfl)⟩ rfl (fun v9 w9 hu => ?_)
              obtain ⟨b2_3, f2_4, rfl, rfl, u_5, u_6, u_7⟩ := hu
              refine v_is (wn := [(xv, aZ g 72000 fg), (h0, ob 8 [.ref xa, .ref xb, .ref xc, .ref xd, .ref xe, .ref xf, .ref xg, .int (iI vc), .int (iI vk), .int (iI vw), .ref xm, .ref xv, .int (iI vg), .ref xw, .int (iI b2_3), .int (iI vi), .ref xq, .int (iI ve), .int (iI vf), .int (iI vu), .int (iI vl), .ref xr, .ref xh, .ref xo, .ref xp, .int (iI vr), .int (iI va), .int (iI vt), .int (iI vm), .int (iI vd), .int (iI vx)]), (xw, aI g 72000 f2_4), (xa, aI g 64 (lfT mW 64)), (xb, aI g 64 (lfT mB 64)), (xc, aI g 27 (lfT mWM 27)), (xd, aI g 27 (lfT mBM 27)), (xe, aI g 13 (lfT mBO 13))]) (cn := 0) (sn := 0) (sn2 := []) rfl rfl rfl rfl ?_
              refine v_iload fx 4 dX8_oneDimension_52 rfl rfl ?_
              refine v_istore_n fx [(2, .int (iI t)), (0, .ref h0), (1, .int (iI ba)), (3, .int (iI bk)), (4, .int (iI t))] dX8_oneDimension_54 (by decide) rfl rfl ?_
              refine v_iload_n fx 3 dX8_oneDimension_55 rfl rfl ?_
              refine v_if_ne fx 63 dX8_oneDimension_56 (by decide) rfl (by omega) (fun h_8 => ?_) (fun h_8 => ?_)
              ·
                refine v_iconst fx dX8_oneDimension_63 rfl ?_
                refine v_istore_n fx [(3, .int (iI 0)), (2, .int (iI t)), (0, .ref h0), (1, .int (iI ba)), (4, .int (iI t))] dX8_oneDimension_64 (by decide) rfl rfl ?_
                refine v_goto fx 4 dX8_oneDimension_65 (by decide) ?_
                refine v_ws [1, 2, 0, 3, 4, 5, 6, 7] [(h0, ob 8 [.ref xa, .ref xb, .ref xc, .ref xd, .ref xe, .ref xf, .ref xg, .int (iI vc), .int (iI vk), .int (iI vw), .ref xm, .ref xv, .int (iI vg), .ref xw, .int (iI b2_3), .int (iI vi), .ref xq, .int (iI ve), .int (iI vf), .int (iI vu), .int (iI vl), .ref xr, .ref xh, .ref xo, .ref xp, .int (iI vr), .int (iI va), .int (iI vt), .int (iI vm), .int (iI vd), .int (iI vx)]), (xw, aI g 72000 f2_4), (xv, aZ g 72000 fg), (xa, aI g 64 (lfT mW 64)), (xb, aI g 64 (lfT mB 64)), (xc, aI g 27 (lfT mWM 27)), (xd, aI g 27 (lfT mBM 27)), (xe, aI g 13 (lfT mBO 13))] rfl rfl ?_
                refine v_lv [2, 3, 1, 0] [(0, .ref h0), (1, .int (iI ba)), (2, .int (iI t)), (3, .int (iI 0))] rfl ?_
                exact ihL4 t 0 (k + 1) b2_3 f2_4 (by omega) (by omega) (by rw [loA_s (by omega)]; omega) (by omega) (by exact one_stepR (by assumption) (by omega) (by omega) (by omega)) (by omega) (by omega)
              ·
                refine v_iconst fx dX8_oneDimension_59 rfl ?_
                refine v_goto fx 64 dX8_oneDimension_60 (by decide) ?_
                refine v_istore_n fx [(3, .int (iI 1)), (2, .int (iI t)), (0, .ref h0), (1, .int (iI ba)), (4, .int (iI t))] dX8_oneDimension_64 (by decide) rfl rfl ?_
                refine v_goto fx 4 dX8_oneDimension_65 (by decide) ?_
                refine v_ws [1, 2, 0, 3, 4, 5, 6, 7] [(h0, ob 8 [.ref xa, .ref xb, .ref xc, .ref xd, .ref xe, .ref xf, .ref xg, .int (iI vc), .int (iI vk), .int (iI vw), .ref xm, .ref xv, .int (iI vg), .ref xw, .int (iI b2_3), .int (iI vi), .ref xq, .int (iI ve), .int (iI vf), .int (iI vu), .int (iI vl), .ref xr, .ref xh, .ref xo, .ref xp, .int (iI vr), .int (iI va), .int (iI vt), .int (iI vm), .int (iI vd), .int (iI vx)]), (xw, aI g 72000 f2_4), (xv, aZ g 72000 fg), (xa, aI g 64 (lfT mW 64)), (xb, aI g 64 (lfT mB 64)), (xc, aI g 27 (lfT mWM 27)), (xd, aI g 27 (lfT mBM 27)), (xe, aI g 13 (lfT mBO 13))] rfl rfl ?_
                refine v_lv [2, 3, 1, 0] [(0, .ref h0), (1, .int (iI ba)), (2, .int (iI t)), (3, .int (iI 1))] rfl ?_
                exact ihL4 t 1 (k + 1) b2_3 f2_4 (by omega) (by omega) (by rw [loA_s (by omega)]; omega) (by omega) (by exact one_stepR (by assumption) (by omega) (by omega) (by omega)) (by omega) (by omega)
            ·
              refine v_aload_n fx 0 dX8_oneDimension_24 rfl rfl ?_
              refine v_get fx 0 11 inX8 k1007 dX8_oneDimension_25 rfl rfl (by decide) rfl rfl rfl ?_
              refine v_iload_n fx 1 dX8_oneDimension_28 rfl rfl ?_
              refine v_iload fx 4 dX8_oneDimension_29 rfl rfl ?_
              refine v_iadd fx (ba + t) dX8_oneDimension_31 (by rfl) rfl ?_
              refine v_zald fx 2 dX8_oneDimension_32 rfl (by omega) (by omega) rfl ?_
              refine v_any (fun z_9 hz_9 ez_9 => ?_)
              have hz := smp_r (k := k) (t := t) hp4 (by omega) (by omega) ez_9 hz_9
              refine v_iload_n fx 3 dX8_oneDimension_33 rfl rfl ?_
              refine v_icmp_ne fx 43 dX8_oneDimension_34 (by decide) rfl (by omega) (by omega) (fun h_10 => ?_) (fun h_10 => ?_)
              ·
                have htA : t = A k := by omega
                refine v_aload_n fx 0 dX8_oneDimension_43 rfl rfl ?_
                refine v_iload fx 4 dX8_oneDimension_44 rfl rfl ?_
                refine v_iload_n fx 2 dX8_oneDimension_46 rfl rfl ?_
                refine v_isub fx (t - x) dX8_oneDimension_47 (by rfl) rfl ?_
                refine v_iload_n fx 3 dX8_oneDimension_48 rfl rfl ?_
                refine v_callV (As := [.int (iI (t - x)), .int (iI bk)]) (rest := []) fx [0, 1, 3, 4, 5, 6, 7] [2] [(h0, ob 8 [.ref xa, .ref xb, .ref xc, .ref xd, .ref xe, .ref xf, .ref xg, .int (iI vc), .int (iI vk), .int (iI vw), .ref xm, .ref xv, .int (iI vg), .ref xw, .int (iI b1), .int (iI vi), .ref xq, .int (iI ve), .int (iI vf), .int (iI vu), .int (iI vl), .ref xr, .ref xh, .ref xo, .ref xp, .int (iI vr), .int (iI va), .int (iI vt), .int (iI vm), .int (iI vd), .int (iI vx)]), (xw, aI g 72000 f1), (xa, aI g 64 (lfT mW 64)), (xb, aI g 64 (lfT mB 64)), (xc, aI g 27 (lfT mWM 27)), (xd, aI g 27 (lfT mBM 27)), (xe, aI g 13 (lfT mBO 13))] [(xv, aZ g 72000 fg)] 2 0 (c_X8_run_e l g h0 xa xb xc xd xe xf xg xm xv xw xq xr xh xo xp vc vk vw vg b1 vi ve vf vu vl vr va vt vm vd vx f1 (t - x) bk (T ++ oneUp A k.toNat) (by first | omega | decide | assumption) (by first | omega | decide | assumption) (by first | omega | decide | assumption) (by first | omega | decide | assumption) (by exact hi4_4)) dX8_oneDimension_49 k1118 k1120 k25 k57 k1121 ykX8_run rfl rfl rfl rfl rfl rfl rfl rfl (nl rfl) ⟨nl rfl, nl rfl⟩ ⟨(nl rfl), (nl rfl)⟩ rfl (fun v9 w9 hu => ?_)
                obtain ⟨b2_11, f2_12, rfl, rfl, u_13, u_14, u_15⟩ := hu
                refine v_is (wn := [(xv, aZ g 72000 fg), (h0, ob 8 [.ref xa, .ref xb, .ref xc, .ref xd, .ref xe, .ref xf, .ref xg, .int (iI vc), .int (iI vk), .int (iI vw), .ref xm, .ref xv, .int (iI vg), .ref xw, .int (iI b2_11), .int (iI vi), .ref xq, .int (iI ve), .int (iI vf), .int (iI vu), .int (iI vl), .ref xr, .ref xh, .ref xo, .ref xp, .int (iI vr), .int (iI va), .int (iI vt), .int (iI vm), .int (iI vd), .int (iI vx)]), (xw, aI g 72000 f2_12), (xa, aI g 64 (lfT mW 64)), (xb, aI g 64 (lfT mB 64)), (xc, aI g 27 (lfT mWM 27)), (xd, aI g 27 (lfT mBM 27)), (xe, aI g 13 (lfT mBO 13))]) (cn := 0) (sn := 0) (sn2 := []) rfl rfl rfl rfl ?_
                refine v_iload fx 4 dX8_oneDimension_52 rfl rfl ?_
                refine v_istore_n fx [(2, .int (iI t)), (0, .ref h0), (1, .int (iI ba)), (3, .int (iI bk)), (4, .int (iI t))] dX8_oneDimension_54 (by decide) rfl rfl ?_
                refine v_iload_n fx 3 dX8_oneDimension_55 rfl rfl ?_
                refine v_if_ne fx 63 dX8_oneDimension_56 (by decide) rfl (by omega) (fun h_16 => ?_) (fun h_16 => ?_)
                ·
                  refine v_iconst fx dX8_oneDimension_63 rfl ?_
                  refine v_istore_n fx [(3, .int (iI 0)), (2, .int (iI t)), (0, .ref h0), (1, .int (iI ba)), (4, .int (iI t))] dX8_oneDimension_64 (by decide) rfl rfl ?_
                  refine v_goto fx 4 dX8_oneDimension_65 (by decide) ?_
                  refine v_ws [1, 2, 0, 3, 4, 5, 6, 7] [(h0, ob 8 [.ref xa, .ref xb, .ref xc, .ref xd, .ref xe, .ref xf, .ref xg, .int (iI vc), .int (iI vk), .int (iI vw), .ref xm, .ref xv, .int (iI vg), .ref xw, .int (iI b2_11), .int (iI vi), .ref xq, .int (iI ve), .int (iI vf), .int (iI vu), .int (iI vl), .ref xr, .ref xh, .ref xo, .ref xp, .int (iI vr), .int (iI va), .int (iI vt), .int (iI vm), .int (iI vd), .int (iI vx)]), (xw, aI g 72000 f2_12), (xv, aZ g 72000 fg), (xa, aI g 64 (lfT mW 64)), (xb, aI g 64 (lfT mB 64)), (xc, aI g 27 (lfT mWM 27)), (xd, aI g 27 (lfT mBM 27)), (xe, aI g 13 (lfT mBO 13))] rfl rfl ?_
                  refine v_lv [2, 3, 1, 0] [(0, .ref h0), (1, .int (iI ba)), (2, .int (iI t)), (3, .int (iI 0))] rfl ?_
                  exact ihL4 t 0 (k + 1) b2_11 f2_12 (by omega) (by omega) (by rw [loA_s (by omega)]; omega) (by omega) (by exact one_stepR (by assumption) (by omega) (by omega) (by omega)) (by omega) (by omega)
                ·
                  refine v_iconst fx dX8_oneDimension_59 rfl ?_
                  refine v_goto fx 64 dX8_oneDimension_60 (by decide) ?_
                  refine v_istore_n fx [(3, .int (iI 1)), (2, .int (iI t)), (0, .ref h0), (1, .int (iI ba)), (4, .int (iI t))] dX8_oneDimension_64 (by decide) rfl rfl ?_
                  refine v_goto fx 4 dX8_oneDimension_65 (by decide) ?_
                  refine v_ws [1, 2, 0, 3, 4, 5, 6, 7] [(h0, ob 8 [.ref xa, .ref xb, .ref xc, .ref xd, .ref xe, .ref xf, .ref xg, .int (iI vc), .int (iI vk), .int (iI vw), .ref xm, .ref xv, .int (iI vg), .ref xw, .int (iI b2_11), .int (iI vi), .ref xq, .int (iI ve), .int (iI vf), .int (iI vu), .int (iI vl), .ref xr, .ref xh, .ref xo, .ref xp, .int (iI vr), .int (iI va), .int (iI vt), .int (iI vm), .int (iI vd), .int (iI vx)]), (xw, aI g 72000 f2_12), (xv, aZ g 72000 fg), (xa, aI g 64 (lfT mW 64)), (xb, aI g 64 (lfT mB 64)), (xc, aI g 27 (lfT mWM 27)), (xd, aI g 27 (lfT mBM 27)), (xe, aI g 13 (lfT mBO 13))] rfl rfl ?_
                  refine v_lv [2, 3, 1, 0] [(0, .ref h0), (1, .int (iI ba)), (2, .int (iI t)), (3, .int (iI 1))] rfl ?_
                  exact ihL4 t 1 (k + 1) b2_11 f2_12 (by omega) (by omega) (by rw [loA_s (by omega)]; omega) (by omega) (by exact one_stepR (by assumption) (by omega) (by omega) (by omega)) (by omega) (by omega)
              ·
                refine v_iinc fx 4 (t + 1) [(4, .int (iI (t + 1))), (0, .ref h0), (1, .int (iI ba)), (2, .int (iI x)), (3, .int (iI bk))] dX8_oneDimension_37 rfl (by omega) (by decide) rfl rfl ?_
                refine v_goto fx 15 dX8_oneDimension_40 (by decide) ?_
                have hkn := hlo.resolve_right (by omega)
                refine v_lv [1, 2, 3, 4, 0] [(0, .ref h0), (1, .int (iI ba)), (2, .int (iI x)), (3, .int (iI bk)), (4, .int (iI (t + 1)))] rfl ?_
                exact ihL15 (t + 1) (by omega) (by omega)
        refine v_lv [1, 2, 3, 4, 0] [(0, .ref h0), (1, .int (iI ba)), (2, .int (iI x)), (3, .int (iI bk)), (4, .int (iI x))] rfl ?_
        exact L15 _ x (by omega) (Nat.lt_succ_self _)
  refine v_lv [2, 3, 1, 0] [(0, .ref h0), (1, .int (iI ba)), (2, .int (iI 0)), (3, .int (iI 0))] rfl ?_
  exact L4 _ 0 0 0 vb f (by omega) (by omega) (by exact loA_0.symm) (by omega) (by exact one_0R hp5) (by omega) (Nat.lt_succ_self _)
abbrev po_c_X8_twoDimensions_e (g : GG) (h0 : Nat) (xa : Nat) (xb : Nat) (xc : Nat) (xd : Nat) (xe : Nat) (xf : Nat) (xg : Nat) (xm : Nat) (xv : Nat) (xw : Nat) (xq : Nat) (xr : Nat) (xh : Nat) (xo : Nat) (xp : Nat) (vc : Int) (vk : Int) (vw : Int) (vg : Int) (vb : Int) (vi : Int) (ve : Int) (vf : Int) (vu : Int) (vl : Int) (vr : Int) (va : Int) (vt : Int) (vm : Int) (vd : Int) (vx : Int) (f : Nat → Int32) (fg : Nat → Int32) (ba : Int) (ab : Int) (T : List Bool) (A : Int → Int) (ln : Int) (B : Int → Int) (lb : Int) : Option Value → va_W → Prop := fun v8 w8 => ∃ b2 : Int, ∃ f2 : Nat → Int32, ∃ R : List Bool, v8 = none ∧ w8 = [(h0, ob 8 [.ref xa, .ref xb, .ref xc, .ref xd, .ref xe, .ref xf, .ref xg, .int (iI vc), .int (iI vk), .int (iI vw), .ref xm, .ref xv, .int (iI vg), .ref xw, .int (iI b2), .int (iI vi), .ref xq, .int (iI ve), .int (iI vf), .int (iI vu), .int (iI vl), .ref xr, .ref xh, .ref xo, .ref xp, .int (iI vr), .int (iI va), .int (iI vt), .int (iI vm), .int (iI vd), .int (iI vx)]), (xw, aI g 72000 f2), (xv, aZ g 72000 fg), (xa, aI g 64 (lfT mW 64)), (xb, aI g 64 (lfT mB 64)), (xc, aI g 27 (lfT mWM 27)), (xd, aI g 27 (lfT mBM 27)), (xe, aI g 13 (lfT mBO 13))] ∧ (vb ≤ b2 ∧ b2 ≤ vb + 7 * vw + 30) ∧ (EncR f2 (7 - 7 * vl) b2 (T ++ R)) ∧ (Two vw A B (-1) 0 R)
set_option maxHeartbeats 4000000 in
set_option maxRecDepth 100000 in
theorem c_X8_twoDimensions_e (l : Launch) (g : GG) (h0 : Nat) (xa : Nat) (xb : Nat) (xc : Nat) (xd : Nat) (xe : Nat) (xf : Nat) (xg : Nat) (xm : Nat) (xv : Nat) (xw : Nat) (xq : Nat) (xr : Nat) (xh : Nat) (xo : Nat) (xp : Nat) (vc : Int) (vk : Int) (vw : Int) (vg : Int) (vb : Int) (vi : Int) (ve : Int) (vf : Int) (vu : Int) (vl : Int) (vr : Int) (va : Int) (vt : Int) (vm : Int) (vd : Int) (vx : Int) (f : Nat → Int32) (fg : Nat → Int32) (ba : Int) (ab : Int) (T : List Bool) (A : Int → Int) (ln : Int) (B : Int → Int) (lb : Int) (hp0 : 0 ≤ vb ∧ vb + 7 * vw + 80 ≤ 576000) (hp1 : 0 ≤ vl ∧ vl ≤ 1) (hp2 : 1 ≤ vw ∧ vw ≤ 3000) (hp3 : 0 ≤ ba ∧ ba + 3000 ≤ 72000) (hp4 : -1 ≤ ab ∧ ab + 3000 ≤ 72000) (hp5 : SmpA vw A ln fg ba) (hp6 : SmpB vw B lb fg ab) (hp7 : EncR f (7 - 7 * vl) vb T) : Ct l g yX8_twoDimensions (wM yX8_twoDimensions cX8_twoDimensions 9 none) (rmD 4 0 0) [.ref h0, .int (iI ba), .int (iI ab)] [(h0, ob 8 [.ref xa, .ref xb, .ref xc, .ref xd, .ref xe, .ref xf, .ref xg, .int (iI vc), .int (iI vk), .int (iI vw), .ref xm, .ref xv, .int (iI vg), .ref xw, .int (iI vb), .int (iI vi), .ref xq, .int (iI ve), .int (iI vf), .int (iI vu), .int (iI vl), .ref xr, .ref xh, .ref xo, .ref xp, .int (iI vr), .int (iI va), .int (iI vt), .int (iI vm), .int (iI vd), .int (iI vx)]), (xw, aI g 72000 f), (xv, aZ g 72000 fg), (xa, aI g 64 (lfT mW 64)), (xb, aI g 64 (lfT mB 64)), (xc, aI g 27 (lfT mWM 27)), (xd, aI g 27 (lfT mBM 27)), (xe, aI g 13 (lfT mBO 13))] (po_c_X8_twoDimensions_e g h0 xa xb xc xd xe xf xg xm xv xw xq xr xh xo xp vc vk vw vg vb vi ve vf vu vl vr va vt vm vd vx f fg ba ab T A ln B lb) := by
  refine Ct_of (by decide +kernel) (Nat.le_of_ble_eq_true rfl) ?_
  intro p9 e9 s9 m9 ag9 bl9 mt9 c9 A9 fx hr hnm
  have hSA := SmpB_of hp5 hp3.1
  refine v_iconst fx dX8_twoDimensions_0 rfl ?_
  refine v_istore_n fx [(3, .int (iI (-1))), (0, .ref h0), (1, .int (iI ba)), (2, .int (iI ab))] dX8_twoDimensions_1 (by decide) rfl rfl ?_
  refine v_iconst fx dX8_twoDimensions_2 rfl ?_
  refine v_istore fx [(4, .int (iI 0)), (3, .int (iI (-1))), (0, .ref h0), (1, .int (iI ba)), (2, .int (iI ab))] dX8_twoDimensions_3 (by decide) rfl rfl ?_
  have L5 : ∀ (N : Nat) (a0 : Int) (bk : Int) (b1 : Int) (f1 : Nat → Int32) (P : List Bool), (-1 ≤ a0 ∧ a0 ≤ vw) → (0 ≤ bk ∧ bk ≤ 1) → (vb ≤ b1 ∧ b1 ≤ vb + bgt a0 vw) → (EncR f1 (7 - 7 * vl) b1 (T ++ P)) → (PreT vw A B P a0 bk) → ((vw - a0).toNat) < N → V p9 l e9 (rmD 4 0 0) s9 m9 ag9 bl9 mt9 c9 9 g A9 (MQ bl9 (cQ g (po_c_X8_twoDimensions_e g h0 xa xb xc xd xe xf xg xm xv xw xq xr xh xo xp vc vk vw vg vb vi ve vf vu vl vr va vt vm vd vx f fg ba ab T A ln B lb) A9) ag9 s9 0 0 A9) [(h0, ob 8 [.ref xa, .ref xb, .ref xc, .ref xd, .ref xe, .ref xf, .ref xg, .int (iI vc), .int (iI vk), .int (iI vw), .ref xm, .ref xv, .int (iI vg), .ref xw, .int (iI b1), .int (iI vi), .ref xq, .int (iI ve), .int (iI vf), .int (iI vu), .int (iI vl), .ref xr, .ref xh, .ref xo, .ref xp, .int (iI vr), .int (iI va), .int (iI vt), .int (iI vm), .int (iI vd), .int (iI vx)]), (xw, aI g 72000 f1), (xv, aZ g 72000 fg), (xa, aI g 64 (lfT mW 64)), (xb, aI g 64 (lfT mB 64)), (xc, aI g 27 (lfT mWM 27)), (xd, aI g 27 (lfT mBM 27)), (xe, aI g 13 (lfT mBO 13))] 0 0 [(0, .ref h0), (1, .int (iI ba)), (2, .int (iI ab)), (3, .int (iI a0)), (4, .int (iI bk))] 5 [] := by
    intro N
    induction N with
    | zero => intro a0 bk b1 f1 P hi5_0 hi5_1 hi5_2 hi5_3 hi5_4 hN; exact absurd hN (Nat.not_lt_zero _)
    | succ N ihL5 =>
      intro a0 bk b1 f1 P hi5_0 hi5_1 hi5_2 hi5_3 hi5_4 hN5
      have hbl := bgt_le (a0 := a0) (w := vw) (by omega) (by omega)
      refine v_iload_n fx 3 dX8_twoDimensions_5 rfl rfl ?_
      refine v_aload_n fx 0 dX8_twoDimensions_6 rfl rfl ?_
      refine v_get fx 0 9 inX8 k1005 dX8_twoDimensions_7 rfl rfl (by decide) rfl rfl rfl ?_
      refine v_icmp_ge fx 198 dX8_twoDimensions_10 (by decide) rfl (by omega) (by omega) (fun h_1 => ?_) (fun h_1 => ?_)
      ·
        exact v_vret fx [(h0, ob 8 [.ref xa, .ref xb, .ref xc, .ref xd, .ref xe, .ref xf, .ref xg, .int (iI vc), .int (iI vk), .int (iI vw), .ref xm, .ref xv, .int (iI vg), .ref xw, .int (iI b1), .int (iI vi), .ref xq, .int (iI ve), .int (iI vf), .int (iI vu), .int (iI vl), .ref xr, .ref xh, .ref xo, .ref xp, .int (iI vr), .int (iI va), .int (iI vt), .int (iI vm), .int (iI vd), .int (iI vx)]), (xw, aI g 72000 f1), (xv, aZ g 72000 fg), (xa, aI g 64 (lfT mW 64)), (xb, aI g 64 (lfT mB 64)), (xc, aI g 27 (lfT mWM 27)), (xd, aI g 27 (lfT mBM 27)), (xe, aI g 13 (lfT mBO 13))] [0, 1, 2, 3, 4, 5, 6, 7] hr dX8_twoDimensions_198 rfl rfl (nl rfl) (nl rfl) ⟨b1, f1, P, rfl, rfl, (by first | omega | rfl | assumption), (by exact hi5_3), (by exact PreT_end hi5_4 (by omega))⟩
      ·
        obtain ⟨k, hkw⟩ := ex_MinW hSA a0
        obtain ⟨n, hnw⟩ := ex_MinW hp6 a0
        have hmA := hkw (by omega)
        have hmB := hnw (by omega)
        have hn0 := nb1_0le (bk := bk) hmB.1
        refine v_aload_n fx 0 dX8_twoDimensions_13 rfl rfl ?_
        refine v_aload_n fx 0 dX8_twoDimensions_14 rfl rfl ?_
        refine v_get fx 0 11 inX8 k1007 dX8_twoDimensions_15 rfl rfl (by decide) rfl rfl rfl ?_
        refine v_iload_n fx 1 dX8_twoDimensions_18 rfl rfl ?_
        refine v_iload_n fx 3 dX8_twoDimensions_19 rfl rfl ?_
        refine v_callV (As := [.ref xv, .int (iI ba), .int (iI a0)]) (rest := []) fx [0, 2] [1, 3, 4, 5, 6, 7] [(h0, ob 8 [.ref xa, .ref xb, .ref xc, .ref xd, .ref xe, .ref xf, .ref xg, .int (iI vc), .int (iI vk), .int (iI vw), .ref xm, .ref xv, .int (iI vg), .ref xw, .int (iI b1), .int (iI vi), .ref xq, .int (iI ve), .int (iI vf), .int (iI vu), .int (iI vl), .ref xr, .ref xh, .ref xo, .ref xp, .int (iI vr), .int (iI va), .int (iI vt), .int (iI vm), .int (iI vd), .int (iI vx)]), (xv, aZ g 72000 fg)] [(xw, aI g 72000 f1), (xa, aI g 64 (lfT mW 64)), (xb, aI g 64 (lfT mB 64)), (xc, aI g 27 (lfT mWM 27)), (xd, aI g 27 (lfT mBM 27)), (xe, aI g 13 (lfT mBO 13))] 3 0 (c_X8_change_e l g h0 xa xb xc xd xe xf xg xm xv xw xq xr xh xo xp vc vk vw vg b1 vi ve vf vu vl vr va vt vm vd vx xv 72000 fg ba a0 A ln k (by first | omega | decide | assumption) (by first | omega | decide | assumption) (by first | omega | decide | assumption) (by exact hp5) (by exact hmA)) dX8_twoDimensions_20 k1130 k1132 k28 k57 k1133 ykX8_change rfl rfl rfl rfl rfl rfl rfl rfl (nl rfl) ⟨nl rfl, nl rfl⟩ ⟨(nl rfl), (nl rfl)⟩ rfl (fun v9 w9 hu => ?_)
        obtain ⟨a1, rfl, rfl, u_2, u_3⟩ := hu
        refine v_is (wn := [(xw, aI g 72000 f1), (xa, aI g 64 (lfT mW 64)), (xb, aI g 64 (lfT mB 64)), (xc, aI g 27 (lfT mWM 27)), (xd, aI g 27 (lfT mBM 27)), (xe, aI g 13 (lfT mBO 13)), (h0, ob 8 [.ref xa, .ref xb, .ref xc, .ref xd, .ref xe, .ref xf, .ref xg, .int (iI vc), .int (iI vk), .int (iI vw), .ref xm, .ref xv, .int (iI vg), .ref xw, .int (iI b1), .int (iI vi), .ref xq, .int (iI ve), .int (iI vf), .int (iI vu), .int (iI vl), .ref xr, .ref xh, .ref xo, .ref xp, .int (iI vr), .int (iI va), .int (iI vt), .int (iI vm), .int (iI vd), .int (iI vx)]), (xv, aZ g 72000 fg)]) (cn := 0) (sn := 0) (sn2 := [.int (iI a1)]) rfl rfl rfl rfl ?_
        have hea := u_3
        refine v_istore fx [(5, .int (iI a1)), (0, .ref h0), (1, .int (iI ba)), (2, .int (iI ab)), (3, .int (iI a0)), (4, .int (iI bk))] dX8_twoDimensions_23 (by decide) rfl rfl ?_
        refine v_aload_n fx 1 dX8_twoDimensions_25 rfl rfl ?_
        refine v_aload_n fx 1 dX8_twoDimensions_26 rfl rfl ?_
        refine v_get fx 6 11 inX8 k1007 dX8_twoDimensions_27 rfl rfl (by decide) rfl rfl rfl ?_
        refine v_iload_n fx 3 dX8_twoDimensions_30 rfl rfl ?_
        refine v_iload_n fx 4 dX8_twoDimensions_31 rfl rfl ?_
        refine v_iload fx 5 dX8_twoDimensions_32 rfl rfl ?_
        refine v_callV (As := [.ref xv, .int (iI ab), .int (iI a0), .int (iI bk)]) (rest := []) fx [6, 7] [0, 1, 2, 3, 4, 5] [(h0, ob 8 [.ref xa, .ref xb, .ref xc, .ref xd, .ref xe, .ref xf, .ref xg, .int (iI vc), .int (iI vk), .int (iI vw), .ref xm, .ref xv, .int (iI vg), .ref xw, .int (iI b1), .int (iI vi), .ref xq, .int (iI ve), .int (iI vf), .int (iI vu), .int (iI vl), .ref xr, .ref xh, .ref xo, .ref xp, .int (iI vr), .int (iI va), .int (iI vt), .int (iI vm), .int (iI vd), .int (iI vx)]), (xv, aZ g 72000 fg)] [(xw, aI g 72000 f1), (xa, aI g 64 (lfT mW 64)), (xb, aI g 64 (lfT mB 64)), (xc, aI g 27 (lfT mWM 27)), (xd, aI g 27 (lfT mBM 27)), (xe, aI g 13 (lfT mBO 13))] 4 0 (c_X8_b1_e l g h0 xa xb xc xd xe xf xg xm xv xw xq xr xh xo xp vc vk vw vg b1 vi ve vf vu vl vr va vt vm vd vx xv 72000 fg ab a0 bk B lb n (by first | omega | decide | assumption) (by first | omega | decide | assumption) (by first | omega | decide | assumption) (by first | omega | decide | assumption) (by exact hp6) (by exact hmB)) dX8_twoDimensions_34 k1134 k1136 k29 k57 k1137 ykX8_b1 rfl rfl rfl rfl rfl rfl rfl rfl (nl rfl) ⟨nl rfl, nl rfl⟩ ⟨(nl rfl), (nl rfl)⟩ rfl (fun v9 w9 hu => ?_)
        obtain ⟨q1, rfl, rfl, u_4, u_5⟩ := hu
        refine v_is (wn := [(xw, aI g 72000 f1), (xa, aI g 64 (lfT mW 64)), (xb, aI g 64 (lfT mB 64)), (xc, aI g 27 (lfT mWM 27)), (xd, aI g 27 (lfT mBM 27)), (xe, aI g 13 (lfT mBO 13)), (h0, ob 8 [.ref xa, .ref xb, .ref xc, .ref xd, .ref xe, .ref xf, .ref xg, .int (iI vc), .int (iI vk), .int (iI vw), .ref xm, .ref xv, .int (iI vg), .ref xw, .int (iI b1), .int (iI vi), .ref xq, .int (iI ve), .int (iI vf), .int (iI vu), .int (iI vl), .ref xr, .ref xh, .ref xo, .ref xp, .int (iI vr), .int (iI va), .int (iI vt), .int (iI vm), .int (iI vd), .int (iI vx)]), (xv, aZ g 72000 fg)]) (cn := 0) (sn := 0) (sn2 := [.int (iI q1)]) rfl rfl rfl rfl ?_
        have hq1 := u_5
        refine v_istore fx [(6, .int (iI q1)), (5, .int (iI a1)), (0, .ref h0), (1, .int (iI ba)), (2, .int (iI ab)), (3, .int (iI a0)), (4, .int (iI bk))] dX8_twoDimensions_37 (by decide) rfl rfl ?_
        refine v_iload fx 1 dX8_twoDimensions_39 rfl rfl ?_
        refine v_iload fx 0 dX8_twoDimensions_41 rfl rfl ?_
        refine v_isub fx (a1 - q1) dX8_twoDimensions_43 (by rfl) rfl ?_
        refine v_istore fx [(7, .int (iI (a1 - q1))), (6, .int (iI q1)), (5, .int (iI a1)), (0, .ref h0), (1, .int (iI ba)), (2, .int (iI ab)), (3, .int (iI a0)), (4, .int (iI bk))] dX8_twoDimensions_44 (by decide) rfl rfl ?_
        refine v_aload_n fx 3 dX8_twoDimensions_46 rfl rfl ?_
        refine v_aload_n fx 3 dX8_twoDimensions_47 rfl rfl ?_
        refine v_get fx 6 11 inX8 k1007 dX8_twoDimensions_48 rfl rfl (by decide) rfl rfl rfl ?_
        refine v_iload_n fx 5 dX8_twoDimensions_51 rfl rfl ?_
        refine v_iload fx 1 dX8_twoDimensions_52 rfl rfl ?_
        refine v_callV (As := [.ref xv, .int (iI ab), .int (iI q1)]) (rest := []) fx [6, 7] [0, 1, 2, 3, 4, 5] [(h0, ob 8 [.ref xa, .ref xb, .ref xc, .ref xd, .ref xe, .ref xf, .ref xg, .int (iI vc), .int (iI vk), .int (iI vw), .ref xm, .ref xv, .int (iI vg), .ref xw, .int (iI b1), .int (iI vi), .ref xq, .int (iI ve), .int (iI vf), .int (iI vu), .int (iI vl), .ref xr, .ref xh, .ref xo, .ref xp, .int (iI vr), .int (iI va), .int (iI vt), .int (iI vm), .int (iI vd), .int (iI vx)]), (xv, aZ g 72000 fg)] [(xw, aI g 72000 f1), (xa, aI g 64 (lfT mW 64)), (xb, aI g 64 (lfT mB 64)), (xc, aI g 27 (lfT mWM 27)), (xd, aI g 27 (lfT mBM 27)), (xe, aI g 13 (lfT mBO 13))] 3 0 (c_X8_b2_e l g h0 xa xb xc xd xe xf xg xm xv xw xq xr xh xo xp vc vk vw vg b1 vi ve vf vu vl vr va vt vm vd vx xv 72000 fg ab q1 B lb (nb1 n bk) (by first | omega | decide | assumption) (by first | omega | decide | assumption) (by first | omega | decide | assumption) (by exact hp6) (by exact ⟨hn0, hq1⟩)) dX8_twoDimensions_54 k1138 k1140 k30 k57 k1141 ykX8_b2 rfl rfl rfl rfl rfl rfl rfl rfl (nl rfl) ⟨nl rfl, nl rfl⟩ ⟨(nl rfl), (nl rfl)⟩ rfl (fun v9 w9 hu => ?_)
        obtain ⟨q2, rfl, rfl, u_6, u_7⟩ := hu
        refine v_is (wn := [(xw, aI g 72000 f1), (xa, aI g 64 (lfT mW 64)), (xb, aI g 64 (lfT mB 64)), (xc, aI g 27 (lfT mWM 27)), (xd, aI g 27 (lfT mBM 27)), (xe, aI g 13 (lfT mBO 13)), (h0, ob 8 [.ref xa, .ref xb, .ref xc, .ref xd, .ref xe, .ref xf, .ref xg, .int (iI vc), .int (iI vk), .int (iI vw), .ref xm, .ref xv, .int (iI vg), .ref xw, .int (iI b1), .int (iI vi), .ref xq, .int (iI ve), .int (iI vf), .int (iI vu), .int (iI vl), .ref xr, .ref xh, .ref xo, .ref xp, .int (iI vr), .int (iI va), .int (iI vt), .int (iI vm), .int (iI vd), .int (iI vx)]), (xv, aZ g 72000 fg)]) (cn := 0) (sn := 0) (sn2 := [.int (iI q2)]) rfl rfl rfl rfl ?_
        have hq2 := u_7
        refine v_iload fx 2 dX8_twoDimensions_57 rfl rfl ?_
        refine v_icmp_ge fx 83 dX8_twoDimensions_59 (by decide) rfl (by omega) (by omega) (fun h_8 => ?_) (fun h_8 => ?_)
        ·
          refine v_iload fx 0 dX8_twoDimensions_83 rfl rfl ?_
          refine v_bipush fx dX8_twoDimensions_85 (by decide +kernel) rfl ?_
          refine v_icmp_lt fx 120 dX8_twoDimensions_87 (by decide) rfl (by omega) (by omega) (fun h_9 => ?_) (fun h_9 => ?_)
          ·
            refine v_iload fx 2 dX8_twoDimensions_120 rfl rfl ?_
            refine v_aload_n fx 3 dX8_twoDimensions_122 rfl rfl ?_
            refine v_get fx 6 9 inX8 k1005 dX8_twoDimensions_123 rfl rfl (by decide) rfl rfl rfl ?_
            refine v_icmp_ge fx 143 dX8_twoDimensions_126 (by decide) rfl (by omega) (by omega) (fun h_10 => ?_) (fun h_10 => ?_)
            ·
              have ha2 : (a1 < vw ∧ vw ≤ vw) ∨ (a1 = vw ∧ vw = vw) := Or.inr ⟨by omega, rfl⟩
              have hea2 : vw = A (k + 1) := (SmpB_w hSA hmA.1 (by omega)).2.symm
              refine v_aload_n fx 3 dX8_twoDimensions_143 rfl rfl ?_
              refine v_get fx 6 9 inX8 k1005 dX8_twoDimensions_144 rfl rfl (by decide) rfl rfl rfl ?_
              refine v_istore fx [(8, .int (iI vw)), (7, .int (iI (a1 - q1))), (6, .int (iI q1)), (5, .int (iI a1)), (0, .ref h0), (1, .int (iI ba)), (2, .int (iI ab)), (3, .int (iI a0)), (4, .int (iI bk))] dX8_twoDimensions_147 (by decide) rfl rfl ?_
              refine v_aload_n fx 4 dX8_twoDimensions_149 rfl rfl ?_
              refine v_iconst fx dX8_twoDimensions_150 rfl ?_
              refine v_iconst fx dX8_twoDimensions_151 rfl ?_
              refine v_callV (As := [.int (iI 1), .int (iI 3)]) (rest := []) fx [6, 0] [1, 2, 3, 4, 5, 7] [(h0, ob 8 [.ref xa, .ref xb, .ref xc, .ref xd, .ref xe, .ref xf, .ref xg, .int (iI vc), .int (iI vk), .int (iI vw), .ref xm, .ref xv, .int (iI vg), .ref xw, .int (iI b1), .int (iI vi), .ref xq, .int (iI ve), .int (iI vf), .int (iI vu), .int (iI vl), .ref xr, .ref xh, .ref xo, .ref xp, .int (iI vr), .int (iI va), .int (iI vt), .int (iI vm), .int (iI vd), .int (iI vx)]), (xw, aI g 72000 f1)] [(xa, aI g 64 (lfT mW 64)), (xb, aI g 64 (lfT mB 64)), (xc, aI g 27 (lfT mWM 27)), (xd, aI g 27 (lfT mBM 27)), (xe, aI g 13 (lfT mBO 13)), (xv, aZ g 72000 fg)] 2 0 (c_X8_number_e l g h0 xa xb xc xd xe xf xg xm xv xw xq xr xh xo xp vc vk vw vg b1 vi ve vf vu vl vr va vt vm vd vx f1 1 3 (T ++ P) (by first | omega | decide | assumption) (by first | omega | decide | assumption) (by first | omega | decide | assumption) (by exact hi5_3)) dX8_twoDimensions_152 k1106 k1108 k22 k57 k1109 ykX8_number rfl rfl rfl rfl rfl rfl rfl rfl (nl rfl) ⟨nl rfl, nl rfl⟩ ⟨(nl rfl), (nl rfl)⟩ rfl (fun v9 w9 hu => ?_)
              obtain ⟨cm, f2_11, rfl, rfl, u_12, u_13⟩ := hu
              refine v_is (wn := [(xa, aI g 64 (lfT mW 64)), (xb, aI g 64 (lfT mB 64)), (xc, aI g 27 (lfT mWM 27)), (xd, aI g 27 (lfT mBM 27)), (xe, aI g 13 (lfT mBO 13)), (xv, aZ g 72000 fg), (h0, ob 8 [.ref xa, .ref xb, .ref xc, .ref xd, .ref xe, .ref xf, .ref xg, .int (iI vc), .int (iI vk), .int (iI vw), .ref xm, .ref xv, .int (iI vg), .ref xw, .int (iI cm), .int (iI vi), .ref xq, .int (iI ve), .int (iI vf), .int (iI vu), .int (iI vl), .ref xr, .ref xh, .ref xo, .ref xp, .int (iI vr), .int (iI va), .int (iI vt), .int (iI vm), .int (iI vd), .int (iI vx)]), (xw, aI g 72000 f2_11)]) (cn := 0) (sn := 0) (sn2 := []) rfl rfl rfl rfl ?_
              have hE1 := EncR_eq u_13 (show _ = (T ++ P) ++ codeB 9 by rw [cb_hor])
              refine v_aload_n fx 4 dX8_twoDimensions_155 rfl rfl ?_
              refine v_iload fx 3 dX8_twoDimensions_156 rfl rfl ?_
              refine v_iload_n fx 7 dX8_twoDimensions_158 rfl rfl ?_
              refine v_if_ge fx 166 dX8_twoDimensions_159 (by decide) rfl (by omega) (fun h_14 => ?_) (fun h_14 => ?_)
              ·
                have hrs : (a0 < 0 ∧ a0 = 0) ∨ (0 ≤ a0 ∧ a0 = a0) := Or.inr ⟨h_14, rfl⟩
                refine v_iload_n fx 7 dX8_twoDimensions_166 rfl rfl ?_
                refine v_isub fx (a1 - a0) dX8_twoDimensions_167 (by rfl) rfl ?_
                refine v_iload fx 8 dX8_twoDimensions_168 rfl rfl ?_
                refine v_callV (As := [.int (iI (a1 - a0)), .int (iI bk)]) (rest := []) fx [6, 7, 0, 1, 2, 3, 4] [5] [(h0, ob 8 [.ref xa, .ref xb, .ref xc, .ref xd, .ref xe, .ref xf, .ref xg, .int (iI vc), .int (iI vk), .int (iI vw), .ref xm, .ref xv, .int (iI vg), .ref xw, .int (iI cm), .int (iI vi), .ref xq, .int (iI ve), .int (iI vf), .int (iI vu), .int (iI vl), .ref xr, .ref xh, .ref xo, .ref xp, .int (iI vr), .int (iI va), .int (iI vt), .int (iI vm), .int (iI vd), .int (iI vx)]), (xw, aI g 72000 f2_11), (xa, aI g 64 (lfT mW 64)), (xb, aI g 64 (lfT mB 64)), (xc, aI g 27 (lfT mWM 27)), (xd, aI g 27 (lfT mBM 27)), (xe, aI g 13 (lfT mBO 13))] [(xv, aZ g 72000 fg)] 2 0 (c_X8_run_e l g h0 xa xb xc xd xe xf xg xm xv xw xq xr xh xo xp vc vk vw vg cm vi ve vf vu vl vr va vt vm vd vx f2_11 (a1 - a0) bk ((T ++ P) ++ codeB 9) (by first | omega | decide | assumption) (by first | omega | decide | assumption) (by first | omega | decide | assumption) (by first | omega | decide | assumption) (by exact hE1)) dX8_twoDimensions_170 k1118 k1120 k25 k57 k1121 ykX8_run rfl rfl rfl rfl rfl rfl rfl rfl (nl rfl) ⟨nl rfl, nl rfl⟩ ⟨(nl rfl), (nl rfl)⟩ rfl (fun v9 w9 hu => ?_)
                obtain ⟨cn1, f2_15, rfl, rfl, u_16, u_17, u_18⟩ := hu
                refine v_is (wn := [(xv, aZ g 72000 fg), (h0, ob 8 [.ref xa, .ref xb, .ref xc, .ref xd, .ref xe, .ref xf, .ref xg, .int (iI vc), .int (iI vk), .int (iI vw), .ref xm, .ref xv, .int (iI vg), .ref xw, .int (iI cn1), .int (iI vi), .ref xq, .int (iI ve), .int (iI vf), .int (iI vu), .int (iI vl), .ref xr, .ref xh, .ref xo, .ref xp, .int (iI vr), .int (iI va), .int (iI vt), .int (iI vm), .int (iI vd), .int (iI vx)]), (xw, aI g 72000 f2_15), (xa, aI g 64 (lfT mW 64)), (xb, aI g 64 (lfT mB 64)), (xc, aI g 27 (lfT mWM 27)), (xd, aI g 27 (lfT mBM 27)), (xe, aI g 13 (lfT mBO 13))]) (cn := 0) (sn := 0) (sn2 := []) rfl rfl rfl rfl ?_
                have hE2 := u_18
                have hbr := bgt_run (k1 := cn1 - cm) (bk := bk) (w := vw) (a1 := a1) (a0 := a0) (by omega) hrs (by omega) (by omega) (by omega)
                refine v_aload_n fx 4 dX8_twoDimensions_173 rfl rfl ?_
                refine v_iload fx 0 dX8_twoDimensions_174 rfl rfl ?_
                refine v_iload fx 3 dX8_twoDimensions_176 rfl rfl ?_
                refine v_isub fx (vw - a1) dX8_twoDimensions_178 (by rfl) rfl ?_
                refine v_iload fx 8 dX8_twoDimensions_179 rfl rfl ?_
                refine v_if_ne fx 188 dX8_twoDimensions_181 (by decide) rfl (by omega) (fun h_19 => ?_) (fun h_19 => ?_)
                ·
                  refine v_iconst fx dX8_twoDimensions_188 rfl ?_
                  refine v_callV (As := [.int (iI (vw - a1)), .int (iI 0)]) (rest := []) fx [1, 2, 3, 4, 5, 6, 7] [0] [(h0, ob 8 [.ref xa, .ref xb, .ref xc, .ref xd, .ref xe, .ref xf, .ref xg, .int (iI vc), .int (iI vk), .int (iI vw), .ref xm, .ref xv, .int (iI vg), .ref xw, .int (iI cn1), .int (iI vi), .ref xq, .int (iI ve), .int (iI vf), .int (iI vu), .int (iI vl), .ref xr, .ref xh, .ref xo, .ref xp, .int (iI vr), .int (iI va), .int (iI vt), .int (iI vm), .int (iI vd), .int (iI vx)]), (xw, aI g 72000 f2_15), (xa, aI g 64 (lfT mW 64)), (xb, aI g 64 (lfT mB 64)), (xc, aI g 27 (lfT mWM 27)), (xd, aI g 27 (lfT mBM 27)), (xe, aI g 13 (lfT mBO 13))] [(xv, aZ g 72000 fg)] 2 0 (c_X8_run_e l g h0 xa xb xc xd xe xf xg xm xv xw xq xr xh xo xp vc vk vw vg cn1 vi ve vf vu vl vr va vt vm vd vx f2_15 (vw - a1) 0 (((T ++ P) ++ codeB 9) ++ runS (a1 - a0) (bk)) (by first | omega | decide | assumption) (by first | omega | decide | assumption) (by first | omega | decide | assumption) (by first | omega | decide | assumption) (by exact hE2)) dX8_twoDimensions_189 k1118 k1120 k25 k57 k1121 ykX8_run rfl rfl rfl rfl rfl rfl rfl rfl (nl rfl) ⟨nl rfl, nl rfl⟩ ⟨(nl rfl), (nl rfl)⟩ rfl (fun v9 w9 hu => ?_)
                  obtain ⟨cn2, f2_20, rfl, rfl, u_21, u_22, u_23⟩ := hu
                  refine v_is (wn := [(xv, aZ g 72000 fg), (h0, ob 8 [.ref xa, .ref xb, .ref xc, .ref xd, .ref xe, .ref xf, .ref xg, .int (iI vc), .int (iI vk), .int (iI vw), .ref xm, .ref xv, .int (iI vg), .ref xw, .int (iI cn2), .int (iI vi), .ref xq, .int (iI ve), .int (iI vf), .int (iI vu), .int (iI vl), .ref xr, .ref xh, .ref xo, .ref xp, .int (iI vr), .int (iI va), .int (iI vt), .int (iI vm), .int (iI vd), .int (iI vx)]), (xw, aI g 72000 f2_20), (xa, aI g 64 (lfT mW 64)), (xb, aI g 64 (lfT mB 64)), (xc, aI g 27 (lfT mWM 27)), (xd, aI g 27 (lfT mBM 27)), (xe, aI g 13 (lfT mBO 13))]) (cn := 0) (sn := 0) (sn2 := []) rfl rfl rfl rfl ?_
                  have hE3 := u_23
                  have hbt := bgt_hor (k1 := cn1 - cm) (k2 := cn2 - cn1) (bk := bk) (a1 := a1) (w := vw) (a0 := a0) (by omega) hrs (by omega) ha2 (by omega) (by omega) (by omega)
                  have hPn := PreT_hor hi5_4 (by omega) hmA hmB hea hea2 hq1 hq2 (by omega) (by omega) rfl (z1 := (a1 - a0)) (by rw [← rs0_of hrs]) rfl (z2 := vw - a1) rfl (g2 := 0) (by omega)
                  rw [List.append_assoc, List.append_assoc, List.append_assoc] at hE3
                  rw [List.append_assoc, List.append_assoc] at hPn
                  have hEn := hE3
                  refine v_iload fx 0 dX8_twoDimensions_192 rfl rfl ?_
                  refine v_istore_n fx [(3, .int (iI vw)), (8, .int (iI vw)), (7, .int (iI (a1 - q1))), (6, .int (iI q1)), (5, .int (iI a1)), (0, .ref h0), (1, .int (iI ba)), (2, .int (iI ab)), (4, .int (iI bk))] dX8_twoDimensions_194 (by decide) rfl rfl ?_
                  refine v_goto fx 5 dX8_twoDimensions_195 (by decide) ?_
                  refine v_ws [1, 2, 0, 3, 4, 5, 6, 7] [(h0, ob 8 [.ref xa, .ref xb, .ref xc, .ref xd, .ref xe, .ref xf, .ref xg, .int (iI vc), .int (iI vk), .int (iI vw), .ref xm, .ref xv, .int (iI vg), .ref xw, .int (iI cn2), .int (iI vi), .ref xq, .int (iI ve), .int (iI vf), .int (iI vu), .int (iI vl), .ref xr, .ref xh, .ref xo, .ref xp, .int (iI vr), .int (iI va), .int (iI vt), .int (iI vm), .int (iI vd), .int (iI vx)]), (xw, aI g 72000 f2_20), (xv, aZ g 72000 fg), (xa, aI g 64 (lfT mW 64)), (xb, aI g 64 (lfT mB 64)), (xc, aI g 27 (lfT mWM 27)), (xd, aI g 27 (lfT mBM 27)), (xe, aI g 13 (lfT mBO 13))] rfl rfl ?_
                  refine v_lv [5, 6, 7, 0, 8] [(0, .ref h0), (1, .int (iI ba)), (2, .int (iI ab)), (3, .int (iI vw)), (4, .int (iI bk))] rfl ?_
                  exact ihL5 vw bk cn2 f2_20 (P ++ (codeB 9 ++ ((runS (a1 - a0) (bk)) ++ runS (vw - a1) (0)))) (by omega) (by omega) (by omega) (by exact hEn) (by first | exact hPn | exact hPn0 _ (by omega)) (by omega)
                ·
                  refine v_iconst fx dX8_twoDimensions_184 rfl ?_
                  refine v_goto fx 189 dX8_twoDimensions_185 (by decide) ?_
                  refine v_callV (As := [.int (iI (vw - a1)), .int (iI 1)]) (rest := []) fx [1, 2, 3, 4, 5, 6, 7] [0] [(h0, ob 8 [.ref xa, .ref xb, .ref xc, .ref xd, .ref xe, .ref xf, .ref xg, .int (iI vc), .int (iI vk), .int (iI vw), .ref xm, .ref xv, .int (iI vg), .ref xw, .int (iI cn1), .int (iI vi), .ref xq, .int (iI ve), .int (iI vf), .int (iI vu), .int (iI vl), .ref xr, .ref xh, .ref xo, .ref xp, .int (iI vr), .int (iI va), .int (iI vt), .int (iI vm), .int (iI vd), .int (iI vx)]), (xw, aI g 72000 f2_15), (xa, aI g 64 (lfT mW 64)), (xb, aI g 64 (lfT mB 64)), (xc, aI g 27 (lfT mWM 27)), (xd, aI g 27 (lfT mBM 27)), (xe, aI g 13 (lfT mBO 13))] [(xv, aZ g 72000 fg)] 2 0 (c_X8_run_e l g h0 xa xb xc xd xe xf xg xm xv xw xq xr xh xo xp vc vk vw vg cn1 vi ve vf vu vl vr va vt vm vd vx f2_15 (vw - a1) 1 (((T ++ P) ++ codeB 9) ++ runS (a1 - a0) (bk)) (by first | omega | decide | assumption) (by first | omega | decide | assumption) (by first | omega | decide | assumption) (by first | omega | decide | assumption) (by exact hE2)) dX8_twoDimensions_189 k1118 k1120 k25 k57 k1121 ykX8_run rfl rfl rfl rfl rfl rfl rfl rfl (nl rfl) ⟨nl rfl, nl rfl⟩ ⟨(nl rfl), (nl rfl)⟩ rfl (fun v9 w9 hu => ?_)
                  obtain ⟨cn2, f2_24, rfl, rfl, u_25, u_26, u_27⟩ := hu
                  refine v_is (wn := [(xv, aZ g 72000 fg), (h0, ob 8 [.ref xa, .ref xb, .ref xc, .ref xd, .ref xe, .ref xf, .ref xg, .int (iI vc), .int (iI vk), .int (iI vw), .ref xm, .ref xv, .int (iI vg), .ref xw, .int (iI cn2), .int (iI vi), .ref xq, .int (iI ve), .int (iI vf), .int (iI vu), .int (iI vl), .ref xr, .ref xh, .ref xo, .ref xp, .int (iI vr), .int (iI va), .int (iI vt), .int (iI vm), .int (iI vd), .int (iI vx)]), (xw, aI g 72000 f2_24), (xa, aI g 64 (lfT mW 64)), (xb, aI g 64 (lfT mB 64)), (xc, aI g 27 (lfT mWM 27)), (xd, aI g 27 (lfT mBM 27)), (xe, aI g 13 (lfT mBO 13))]) (cn := 0) (sn := 0) (sn2 := []) rfl rfl rfl rfl ?_
                  have hE3 := u_27
                  have hbt := bgt_hor (k1 := cn1 - cm) (k2 := cn2 - cn1) (bk := bk) (a1 := a1) (w := vw) (a0 := a0) (by omega) hrs (by omega) ha2 (by omega) (by omega) (by omega)
                  have hPn := PreT_hor hi5_4 (by omega) hmA hmB hea hea2 hq1 hq2 (by omega) (by omega) rfl (z1 := (a1 - a0)) (by rw [← rs0_of hrs]) rfl (z2 := vw - a1) rfl (g2 := 1) (by omega)
                  rw [List.append_assoc, List.append_assoc, List.append_assoc] at hE3
                  rw [List.append_assoc, List.append_assoc] at hPn
                  have hEn := hE3
                  refine v_iload fx 0 dX8_twoDimensions_192 rfl rfl ?_
                  refine v_istore_n fx [(3, .int (iI vw)), (8, .int (iI vw)), (7, .int (iI (a1 - q1))), (6, .int (iI q1)), (5, .int (iI a1)), (0, .ref h0), (1, .int (iI ba)), (2, .int (iI ab)), (4, .int (iI bk))] dX8_twoDimensions_194 (by decide) rfl rfl ?_
                  refine v_goto fx 5 dX8_twoDimensions_195 (by decide) ?_
                  refine v_ws [1, 2, 0, 3, 4, 5, 6, 7] [(h0, ob 8 [.ref xa, .ref xb, .ref xc, .ref xd, .ref xe, .ref xf, .ref xg, .int (iI vc), .int (iI vk), .int (iI vw), .ref xm, .ref xv, .int (iI vg), .ref xw, .int (iI cn2), .int (iI vi), .ref xq, .int (iI ve), .int (iI vf), .int (iI vu), .int (iI vl), .ref xr, .ref xh, .ref xo, .ref xp, .int (iI vr), .int (iI va), .int (iI vt), .int (iI vm), .int (iI vd), .int (iI vx)]), (xw, aI g 72000 f2_24), (xv, aZ g 72000 fg), (xa, aI g 64 (lfT mW 64)), (xb, aI g 64 (lfT mB 64)), (xc, aI g 27 (lfT mWM 27)), (xd, aI g 27 (lfT mBM 27)), (xe, aI g 13 (lfT mBO 13))] rfl rfl ?_
                  refine v_lv [5, 6, 7, 0, 8] [(0, .ref h0), (1, .int (iI ba)), (2, .int (iI ab)), (3, .int (iI vw)), (4, .int (iI bk))] rfl ?_
                  exact ihL5 vw bk cn2 f2_24 (P ++ (codeB 9 ++ ((runS (a1 - a0) (bk)) ++ runS (vw - a1) (1)))) (by omega) (by omega) (by omega) (by exact hEn) (by first | exact hPn | exact hPn0 _ (by omega)) (by omega)
              ·
                have hrs : (a0 < 0 ∧ (0 : Int) = 0) ∨ (0 ≤ a0 ∧ (0 : Int) = a0) := Or.inl ⟨h_14, rfl⟩
                refine v_iconst fx dX8_twoDimensions_162 rfl ?_
                refine v_goto fx 167 dX8_twoDimensions_163 (by decide) ?_
                refine v_isub fx (a1 - 0) dX8_twoDimensions_167 (by rfl) rfl ?_
                refine v_iload fx 8 dX8_twoDimensions_168 rfl rfl ?_
                refine v_callV (As := [.int (iI (a1 - 0)), .int (iI bk)]) (rest := []) fx [6, 7, 0, 1, 2, 3, 4] [5] [(h0, ob 8 [.ref xa, .ref xb, .ref xc, .ref xd, .ref xe, .ref xf, .ref xg, .int (iI vc), .int (iI vk), .int (iI vw), .ref xm, .ref xv, .int (iI vg), .ref xw, .int (iI cm), .int (iI vi), .ref xq, .int (iI ve), .int (iI vf), .int (iI vu), .int (iI vl), .ref xr, .ref xh, .ref xo, .ref xp, .int (iI vr), .int (iI va), .int (iI vt), .int (iI vm), .int (iI vd), .int (iI vx)]), (xw, aI g 72000 f2_11), (xa, aI g 64 (lfT mW 64)), (xb, aI g 64 (lfT mB 64)), (xc, aI g 27 (lfT mWM 27)), (xd, aI g 27 (lfT mBM 27)), (xe, aI g 13 (lfT mBO 13))] [(xv, aZ g 72000 fg)] 2 0 (c_X8_run_e l g h0 xa xb xc xd xe xf xg xm xv xw xq xr xh xo xp vc vk vw vg cm vi ve vf vu vl vr va vt vm vd vx f2_11 (a1 - 0) bk ((T ++ P) ++ codeB 9) (by first | omega | decide | assumption) (by first | omega | decide | assumption) (by first | omega | decide | assumption) (by first | omega | decide | assumption) (by exact hE1)) dX8_twoDimensions_170 k1118 k1120 k25 k57 k1121 ykX8_run rfl rfl rfl rfl rfl rfl rfl rfl (nl rfl) ⟨nl rfl, nl rfl⟩ ⟨(nl rfl), (nl rfl)⟩ rfl (fun v9 w9 hu => ?_)
                obtain ⟨cn1, f2_28, rfl, rfl, u_29, u_30, u_31⟩ := hu
                refine v_is (wn := [(xv, aZ g 72000 fg), (h0, ob 8 [.ref xa, .ref xb, .ref xc, .ref xd, .ref xe, .ref xf, .ref xg, .int (iI vc), .int (iI vk), .int (iI vw), .ref xm, .ref xv, .int (iI vg), .ref xw, .int (iI cn1), .int (iI vi), .ref xq, .int (iI ve), .int (iI vf), .int (iI vu), .int (iI vl), .ref xr, .ref xh, .ref xo, .ref xp, .int (iI vr), .int (iI va), .int (iI vt), .int (iI vm), .int (iI vd), .int (iI vx)]), (xw, aI g 72000 f2_28), (xa, aI g 64 (lfT mW 64)), (xb, aI g 64 (lfT mB 64)), (xc, aI g 27 (lfT mWM 27)), (xd, aI g 27 (lfT mBM 27)), (xe, aI g 13 (lfT mBO 13))]) (cn := 0) (sn := 0) (sn2 := []) rfl rfl rfl rfl ?_
                have hE2 := u_31
                have hbr := bgt_run (k1 := cn1 - cm) (bk := bk) (w := vw) (a1 := a1) (a0 := a0) (by omega) hrs (by omega) (by omega) (by omega)
                refine v_aload_n fx 4 dX8_twoDimensions_173 rfl rfl ?_
                refine v_iload fx 0 dX8_twoDimensions_174 rfl rfl ?_
                refine v_iload fx 3 dX8_twoDimensions_176 rfl rfl ?_
                refine v_isub fx (vw - a1) dX8_twoDimensions_178 (by rfl) rfl ?_
                refine v_iload fx 8 dX8_twoDimensions_179 rfl rfl ?_
                refine v_if_ne fx 188 dX8_twoDimensions_181 (by decide) rfl (by omega) (fun h_32 => ?_) (fun h_32 => ?_)
                ·
                  refine v_iconst fx dX8_twoDimensions_188 rfl ?_
                  refine v_callV (As := [.int (iI (vw - a1)), .int (iI 0)]) (rest := []) fx [1, 2, 3, 4, 5, 6, 7] [0] [(h0, ob 8 [.ref xa, .ref xb, .ref xc, .ref xd, .ref xe, .ref xf, .ref xg, .int (iI vc), .int (iI vk), .int (iI vw), .ref xm, .ref xv, .int (iI vg), .ref xw, .int (iI cn1), .int (iI vi), .ref xq, .int (iI ve), .int (iI vf), .int (iI vu), .int (iI vl), .ref xr, .ref xh, .ref xo, .ref xp, .int (iI vr), .int (iI va), .int (iI vt), .int (iI vm), .int (iI vd), .int (iI vx)]), (xw, aI g 72000 f2_28), (xa, aI g 64 (lfT mW 64)), (xb, aI g 64 (lfT mB 64)), (xc, aI g 27 (lfT mWM 27)), (xd, aI g 27 (lfT mBM 27)), (xe, aI g 13 (lfT mBO 13))] [(xv, aZ g 72000 fg)] 2 0 (c_X8_run_e l g h0 xa xb xc xd xe xf xg xm xv xw xq xr xh xo xp vc vk vw vg cn1 vi ve vf vu vl vr va vt vm vd vx f2_28 (vw - a1) 0 (((T ++ P) ++ codeB 9) ++ runS (a1 - 0) (bk)) (by first | omega | decide | assumption) (by first | omega | decide | assumption) (by first | omega | decide | assumption) (by first | omega | decide | assumption) (by exact hE2)) dX8_twoDimensions_189 k1118 k1120 k25 k57 k1121 ykX8_run rfl rfl rfl rfl rfl rfl rfl rfl (nl rfl) ⟨nl rfl, nl rfl⟩ ⟨(nl rfl), (nl rfl)⟩ rfl (fun v9 w9 hu => ?_)
                  obtain ⟨cn2, f2_33, rfl, rfl, u_34, u_35, u_36⟩ := hu
                  refine v_is (wn := [(xv, aZ g 72000 fg), (h0, ob 8 [.ref xa, .ref xb, .ref xc, .ref xd, .ref xe, .ref xf, .ref xg, .int (iI vc), .int (iI vk), .int (iI vw), .ref xm, .ref xv, .int (iI vg), .ref xw, .int (iI cn2), .int (iI vi), .ref xq, .int (iI ve), .int (iI vf), .int (iI vu), .int (iI vl), .ref xr, .ref xh, .ref xo, .ref xp, .int (iI vr), .int (iI va), .int (iI vt), .int (iI vm), .int (iI vd), .int (iI vx)]), (xw, aI g 72000 f2_33), (xa, aI g 64 (lfT mW 64)), (xb, aI g 64 (lfT mB 64)), (xc, aI g 27 (lfT mWM 27)), (xd, aI g 27 (lfT mBM 27)), (xe, aI g 13 (lfT mBO 13))]) (cn := 0) (sn := 0) (sn2 := []) rfl rfl rfl rfl ?_
                  have hE3 := u_36
                  have hbt := bgt_hor (k1 := cn1 - cm) (k2 := cn2 - cn1) (bk := bk) (a1 := a1) (w := vw) (a0 := a0) (by omega) hrs (by omega) ha2 (by omega) (by omega) (by omega)
                  have hPn := PreT_hor hi5_4 (by omega) hmA hmB hea hea2 hq1 hq2 (by omega) (by omega) rfl (z1 := (a1 - 0)) (by rw [← rs0_of hrs]) rfl (z2 := vw - a1) rfl (g2 := 0) (by omega)
                  rw [List.append_assoc, List.append_assoc, List.append_assoc] at hE3
                  rw [List.append_assoc, List.append_assoc] at hPn
                  have hEn := hE3
                  refine v_iload fx 0 dX8_twoDimensions_192 rfl rfl ?_
                  refine v_istore_n fx [(3, .int (iI vw)), (8, .int (iI vw)), (7, .int (iI (a1 - q1))), (6, .int (iI q1)), (5, .int (iI a1)), (0, .ref h0), (1, .int (iI ba)), (2, .int (iI ab)), (4, .int (iI bk))] dX8_twoDimensions_194 (by decide) rfl rfl ?_
                  refine v_goto fx 5 dX8_twoDimensions_195 (by decide) ?_
                  refine v_ws [1, 2, 0, 3, 4, 5, 6, 7] [(h0, ob 8 [.ref xa, .ref xb, .ref xc, .ref xd, .ref xe, .ref xf, .ref xg, .int (iI vc), .int (iI vk), .int (iI vw), .ref xm, .ref xv, .int (iI vg), .ref xw, .int (iI cn2), .int (iI vi), .ref xq, .int (iI ve), .int (iI vf), .int (iI vu), .int (iI vl), .ref xr, .ref xh, .ref xo, .ref xp, .int (iI vr), .int (iI va), .int (iI vt), .int (iI vm), .int (iI vd), .int (iI vx)]), (xw, aI g 72000 f2_33), (xv, aZ g 72000 fg), (xa, aI g 64 (lfT mW 64)), (xb, aI g 64 (lfT mB 64)), (xc, aI g 27 (lfT mWM 27)), (xd, aI g 27 (lfT mBM 27)), (xe, aI g 13 (lfT mBO 13))] rfl rfl ?_
                  refine v_lv [5, 6, 7, 0, 8] [(0, .ref h0), (1, .int (iI ba)), (2, .int (iI ab)), (3, .int (iI vw)), (4, .int (iI bk))] rfl ?_
                  exact ihL5 vw bk cn2 f2_33 (P ++ (codeB 9 ++ ((runS (a1 - 0) (bk)) ++ runS (vw - a1) (0)))) (by omega) (by omega) (by omega) (by exact hEn) (by first | exact hPn | exact hPn0 _ (by omega)) (by omega)
                ·
                  refine v_iconst fx dX8_twoDimensions_184 rfl ?_
                  refine v_goto fx 189 dX8_twoDimensions_185 (by decide) ?_
                  refine v_callV (As := [.int (iI (vw - a1)), .int (iI 1)]) (rest := []) fx [1, 2, 3, 4, 5, 6, 7] [0] [(h0, ob 8 [.ref xa, .ref xb, .ref xc, .ref xd, .ref xe, .ref xf, .ref xg, .int (iI vc), .int (iI vk), .int (iI vw), .ref xm, .ref xv, .int (iI vg), .ref xw, .int (iI cn1), .int (iI vi), .ref xq, .int (iI ve), .int (iI vf), .int (iI vu), .int (iI vl), .ref xr, .ref xh, .ref xo, .ref xp, .int (iI vr), .int (iI va), .int (iI vt), .int (iI vm), .int (iI vd), .int (iI vx)]), (xw, aI g 72000 f2_28), (xa, aI g 64 (lfT mW 64)), (xb, aI g 64 (lfT mB 64)), (xc, aI g 27 (lfT mWM 27)), (xd, aI g 27 (lfT mBM 27)), (xe, aI g 13 (lfT mBO 13))] [(xv, aZ g 72000 fg)] 2 0 (c_X8_run_e l g h0 xa xb xc xd xe xf xg xm xv xw xq xr xh xo xp vc vk vw vg cn1 vi ve vf vu vl vr va vt vm vd vx f2_28 (vw - a1) 1 (((T ++ P) ++ codeB 9) ++ runS (a1 - 0) (bk)) (by first | omega | decide | assumption) (by first | omega | decide | assumption) (by first | omega | decide | assumption) (by first | omega | decide | assumption) (by exact hE2)) dX8_twoDimensions_189 k1118 k1120 k25 k57 k1121 ykX8_run rfl rfl rfl rfl rfl rfl rfl rfl (nl rfl) ⟨nl rfl, nl rfl⟩ ⟨(nl rfl), (nl rfl)⟩ rfl (fun v9 w9 hu => ?_)
                  obtain ⟨cn2, f2_37, rfl, rfl, u_38, u_39, u_40⟩ := hu
                  refine v_is (wn := [(xv, aZ g 72000 fg), (h0, ob 8 [.ref xa, .ref xb, .ref xc, .ref xd, .ref xe, .ref xf, .ref xg, .int (iI vc), .int (iI vk), .int (iI vw), .ref xm, .ref xv, .int (iI vg), .ref xw, .int (iI cn2), .int (iI vi), .ref xq, .int (iI ve), .int (iI vf), .int (iI vu), .int (iI vl), .ref xr, .ref xh, .ref xo, .ref xp, .int (iI vr), .int (iI va), .int (iI vt), .int (iI vm), .int (iI vd), .int (iI vx)]), (xw, aI g 72000 f2_37), (xa, aI g 64 (lfT mW 64)), (xb, aI g 64 (lfT mB 64)), (xc, aI g 27 (lfT mWM 27)), (xd, aI g 27 (lfT mBM 27)), (xe, aI g 13 (lfT mBO 13))]) (cn := 0) (sn := 0) (sn2 := []) rfl rfl rfl rfl ?_
                  have hE3 := u_40
                  have hbt := bgt_hor (k1 := cn1 - cm) (k2 := cn2 - cn1) (bk := bk) (a1 := a1) (w := vw) (a0 := a0) (by omega) hrs (by omega) ha2 (by omega) (by omega) (by omega)
                  have hPn := PreT_hor hi5_4 (by omega) hmA hmB hea hea2 hq1 hq2 (by omega) (by omega) rfl (z1 := (a1 - 0)) (by rw [← rs0_of hrs]) rfl (z2 := vw - a1) rfl (g2 := 1) (by omega)
                  rw [List.append_assoc, List.append_assoc, List.append_assoc] at hE3
                  rw [List.append_assoc, List.append_assoc] at hPn
                  have hEn := hE3
                  refine v_iload fx 0 dX8_twoDimensions_192 rfl rfl ?_
                  refine v_istore_n fx [(3, .int (iI vw)), (8, .int (iI vw)), (7, .int (iI (a1 - q1))), (6, .int (iI q1)), (5, .int (iI a1)), (0, .ref h0), (1, .int (iI ba)), (2, .int (iI ab)), (4, .int (iI bk))] dX8_twoDimensions_194 (by decide) rfl rfl ?_
                  refine v_goto fx 5 dX8_twoDimensions_195 (by decide) ?_
                  refine v_ws [1, 2, 0, 3, 4, 5, 6, 7] [(h0, ob 8 [.ref xa, .ref xb, .ref xc, .ref xd, .ref xe, .ref xf, .ref xg, .int (iI vc), .int (iI vk), .int (iI vw), .ref xm, .ref xv, .int (iI vg), .ref xw, .int (iI cn2), .int (iI vi), .ref xq, .int (iI ve), .int (iI vf), .int (iI vu), .int (iI vl), .ref xr, .ref xh, .ref xo, .ref xp, .int (iI vr), .int (iI va), .int (iI vt), .int (iI vm), .int (iI vd), .int (iI vx)]), (xw, aI g 72000 f2_37), (xv, aZ g 72000 fg), (xa, aI g 64 (lfT mW 64)), (xb, aI g 64 (lfT mB 64)), (xc, aI g 27 (lfT mWM 27)), (xd, aI g 27 (lfT mBM 27)), (xe, aI g 13 (lfT mBO 13))] rfl rfl ?_
                  refine v_lv [5, 6, 7, 0, 8] [(0, .ref h0), (1, .int (iI ba)), (2, .int (iI ab)), (3, .int (iI vw)), (4, .int (iI bk))] rfl ?_
                  exact ihL5 vw bk cn2 f2_37 (P ++ (codeB 9 ++ ((runS (a1 - 0) (bk)) ++ runS (vw - a1) (1)))) (by omega) (by omega) (by omega) (by exact hEn) (by first | exact hPn | exact hPn0 _ (by omega)) (by omega)
            ·
              refine v_aload_n fx 3 dX8_twoDimensions_129 rfl rfl ?_
              refine v_aload_n fx 3 dX8_twoDimensions_130 rfl rfl ?_
              refine v_get fx 6 11 inX8 k1007 dX8_twoDimensions_131 rfl rfl (by decide) rfl rfl rfl ?_
              refine v_iload_n fx 4 dX8_twoDimensions_134 rfl rfl ?_
              refine v_iload fx 2 dX8_twoDimensions_135 rfl rfl ?_
              refine v_callV (As := [.ref xv, .int (iI ba), .int (iI a1)]) (rest := []) fx [6, 7] [0, 1, 2, 3, 4, 5] [(h0, ob 8 [.ref xa, .ref xb, .ref xc, .ref xd, .ref xe, .ref xf, .ref xg, .int (iI vc), .int (iI vk), .int (iI vw), .ref xm, .ref xv, .int (iI vg), .ref xw, .int (iI b1), .int (iI vi), .ref xq, .int (iI ve), .int (iI vf), .int (iI vu), .int (iI vl), .ref xr, .ref xh, .ref xo, .ref xp, .int (iI vr), .int (iI va), .int (iI vt), .int (iI vm), .int (iI vd), .int (iI vx)]), (xv, aZ g 72000 fg)] [(xw, aI g 72000 f1), (xa, aI g 64 (lfT mW 64)), (xb, aI g 64 (lfT mB 64)), (xc, aI g 27 (lfT mWM 27)), (xd, aI g 27 (lfT mBM 27)), (xe, aI g 13 (lfT mBO 13))] 3 0 (c_X8_change_e l g h0 xa xb xc xd xe xf xg xm xv xw xq xr xh xo xp vc vk vw vg b1 vi ve vf vu vl vr va vt vm vd vx xv 72000 fg ba a1 A ln (k + 1) (by first | omega | decide | assumption) (by first | omega | decide | assumption) (by first | omega | decide | assumption) (by exact hp5) (by rw [hea]; exact SmpA_next hp5 (by omega) hmA.1 (by omega))) dX8_twoDimensions_137 k1130 k1132 k28 k57 k1133 ykX8_change rfl rfl rfl rfl rfl rfl rfl rfl (nl rfl) ⟨nl rfl, nl rfl⟩ ⟨(nl rfl), (nl rfl)⟩ rfl (fun v9 w9 hu => ?_)
              obtain ⟨a2, rfl, rfl, u_41, u_42⟩ := hu
              refine v_is (wn := [(xw, aI g 72000 f1), (xa, aI g 64 (lfT mW 64)), (xb, aI g 64 (lfT mB 64)), (xc, aI g 27 (lfT mWM 27)), (xd, aI g 27 (lfT mBM 27)), (xe, aI g 13 (lfT mBO 13)), (h0, ob 8 [.ref xa, .ref xb, .ref xc, .ref xd, .ref xe, .ref xf, .ref xg, .int (iI vc), .int (iI vk), .int (iI vw), .ref xm, .ref xv, .int (iI vg), .ref xw, .int (iI b1), .int (iI vi), .ref xq, .int (iI ve), .int (iI vf), .int (iI vu), .int (iI vl), .ref xr, .ref xh, .ref xo, .ref xp, .int (iI vr), .int (iI va), .int (iI vt), .int (iI vm), .int (iI vd), .int (iI vx)]), (xv, aZ g 72000 fg)]) (cn := 0) (sn := 0) (sn2 := [.int (iI a2)]) rfl rfl rfl rfl ?_
              have ha2 : (a1 < a2 ∧ a2 ≤ vw) ∨ (a1 = vw ∧ a2 = vw) := Or.inl u_41
              have hea2 := u_42
              refine v_goto fx 147 dX8_twoDimensions_140 (by decide) ?_
              refine v_istore fx [(8, .int (iI a2)), (7, .int (iI (a1 - q1))), (6, .int (iI q1)), (5, .int (iI a1)), (0, .ref h0), (1, .int (iI ba)), (2, .int (iI ab)), (3, .int (iI a0)), (4, .int (iI bk))] dX8_twoDimensions_147 (by decide) rfl rfl ?_
              refine v_aload_n fx 4 dX8_twoDimensions_149 rfl rfl ?_
              refine v_iconst fx dX8_twoDimensions_150 rfl ?_
              refine v_iconst fx dX8_twoDimensions_151 rfl ?_
              refine v_callV (As := [.int (iI 1), .int (iI 3)]) (rest := []) fx [6, 0] [1, 2, 3, 4, 5, 7] [(h0, ob 8 [.ref xa, .ref xb, .ref xc, .ref xd, .ref xe, .ref xf, .ref xg, .int (iI vc), .int (iI vk), .int (iI vw), .ref xm, .ref xv, .int (iI vg), .ref xw, .int (iI b1), .int (iI vi), .ref xq, .int (iI ve), .int (iI vf), .int (iI vu), .int (iI vl), .ref xr, .ref xh, .ref xo, .ref xp, .int (iI vr), .int (iI va), .int (iI vt), .int (iI vm), .int (iI vd), .int (iI vx)]), (xw, aI g 72000 f1)] [(xa, aI g 64 (lfT mW 64)), (xb, aI g 64 (lfT mB 64)), (xc, aI g 27 (lfT mWM 27)), (xd, aI g 27 (lfT mBM 27)), (xe, aI g 13 (lfT mBO 13)), (xv, aZ g 72000 fg)] 2 0 (c_X8_number_e l g h0 xa xb xc xd xe xf xg xm xv xw xq xr xh xo xp vc vk vw vg b1 vi ve vf vu vl vr va vt vm vd vx f1 1 3 (T ++ P) (by first | omega | decide | assumption) (by first | omega | decide | assumption) (by first | omega | decide | assumption) (by exact hi5_3)) dX8_twoDimensions_152 k1106 k1108 k22 k57 k1109 ykX8_number rfl rfl rfl rfl rfl rfl rfl rfl (nl rfl) ⟨nl rfl, nl rfl⟩ ⟨(nl rfl), (nl rfl)⟩ rfl (fun v9 w9 hu => ?_)
              obtain ⟨cm, f2_43, rfl, rfl, u_44, u_45⟩ := hu
              refine v_is (wn := [(xa, aI g 64 (lfT mW 64)), (xb, aI g 64 (lfT mB 64)), (xc, aI g 27 (lfT mWM 27)), (xd, aI g 27 (lfT mBM 27)), (xe, aI g 13 (lfT mBO 13)), (xv, aZ g 72000 fg), (h0, ob 8 [.ref xa, .ref xb, .ref xc, .ref xd, .ref xe, .ref xf, .ref xg, .int (iI vc), .int (iI vk), .int (iI vw), .ref xm, .ref xv, .int (iI vg), .ref xw, .int (iI cm), .int (iI vi), .ref xq, .int (iI ve), .int (iI vf), .int (iI vu), .int (iI vl), .ref xr, .ref xh, .ref xo, .ref xp, .int (iI vr), .int (iI va), .int (iI vt), .int (iI vm), .int (iI vd), .int (iI vx)]), (xw, aI g 72000 f2_43)]) (cn := 0) (sn := 0) (sn2 := []) rfl rfl rfl rfl ?_
              have hE1 := EncR_eq u_45 (show _ = (T ++ P) ++ codeB 9 by rw [cb_hor])
              refine v_aload_n fx 4 dX8_twoDimensions_155 rfl rfl ?_
              refine v_iload fx 3 dX8_twoDimensions_156 rfl rfl ?_
              refine v_iload_n fx 7 dX8_twoDimensions_158 rfl rfl ?_
              refine v_if_ge fx 166 dX8_twoDimensions_159 (by decide) rfl (by omega) (fun h_46 => ?_) (fun h_46 => ?_)
              ·
                have hrs : (a0 < 0 ∧ a0 = 0) ∨ (0 ≤ a0 ∧ a0 = a0) := Or.inr ⟨h_46, rfl⟩
                refine v_iload_n fx 7 dX8_twoDimensions_166 rfl rfl ?_
                refine v_isub fx (a1 - a0) dX8_twoDimensions_167 (by rfl) rfl ?_
                refine v_iload fx 8 dX8_twoDimensions_168 rfl rfl ?_
                refine v_callV (As := [.int (iI (a1 - a0)), .int (iI bk)]) (rest := []) fx [6, 7, 0, 1, 2, 3, 4] [5] [(h0, ob 8 [.ref xa, .ref xb, .ref xc, .ref xd, .ref xe, .ref xf, .ref xg, .int (iI vc), .int (iI vk), .int (iI vw), .ref xm, .ref xv, .int (iI vg), .ref xw, .int (iI cm), .int (iI vi), .ref xq, .int (iI ve), .int (iI vf), .int (iI vu), .int (iI vl), .ref xr, .ref xh, .ref xo, .ref xp, .int (iI vr), .int (iI va), .int (iI vt), .int (iI vm), .int (iI vd), .int (iI vx)]), (xw, aI g 72000 f2_43), (xa, aI g 64 (lfT mW 64)), (xb, aI g 64 (lfT mB 64)), (xc, aI g 27 (lfT mWM 27)), (xd, aI g 27 (lfT mBM 27)), (xe, aI g 13 (lfT mBO 13))] [(xv, aZ g 72000 fg)] 2 0 (c_X8_run_e l g h0 xa xb xc xd xe xf xg xm xv xw xq xr xh xo xp vc vk vw vg cm vi ve vf vu vl vr va vt vm vd vx f2_43 (a1 - a0) bk ((T ++ P) ++ codeB 9) (by first | omega | decide | assumption) (by first | omega | decide | assumption) (by first | omega | decide | assumption) (by first | omega | decide | assumption) (by exact hE1)) dX8_twoDimensions_170 k1118 k1120 k25 k57 k1121 ykX8_run rfl rfl rfl rfl rfl rfl rfl rfl (nl rfl) ⟨nl rfl, nl rfl⟩ ⟨(nl rfl), (nl rfl)⟩ rfl (fun v9 w9 hu => ?_)
                obtain ⟨cn1, f2_47, rfl, rfl, u_48, u_49, u_50⟩ := hu
                refine v_is (wn := [(xv, aZ g 72000 fg), (h0, ob 8 [.ref xa, .ref xb, .ref xc, .ref xd, .ref xe, .ref xf, .ref xg, .int (iI vc), .int (iI vk), .int (iI vw), .ref xm, .ref xv, .int (iI vg), .ref xw, .int (iI cn1), .int (iI vi), .ref xq, .int (iI ve), .int (iI vf), .int (iI vu), .int (iI vl), .ref xr, .ref xh, .ref xo, .ref xp, .int (iI vr), .int (iI va), .int (iI vt), .int (iI vm), .int (iI vd), .int (iI vx)]), (xw, aI g 72000 f2_47), (xa, aI g 64 (lfT mW 64)), (xb, aI g 64 (lfT mB 64)), (xc, aI g 27 (lfT mWM 27)), (xd, aI g 27 (lfT mBM 27)), (xe, aI g 13 (lfT mBO 13))]) (cn := 0) (sn := 0) (sn2 := []) rfl rfl rfl rfl ?_
                have hE2 := u_50
                have hbr := bgt_run (k1 := cn1 - cm) (bk := bk) (w := vw) (a1 := a1) (a0 := a0) (by omega) hrs (by omega) (by omega) (by omega)
                refine v_aload_n fx 4 dX8_twoDimensions_173 rfl rfl ?_
                refine v_iload fx 0 dX8_twoDimensions_174 rfl rfl ?_
                refine v_iload fx 3 dX8_twoDimensions_176 rfl rfl ?_
                refine v_isub fx (a2 - a1) dX8_twoDimensions_178 (by rfl) rfl ?_
                refine v_iload fx 8 dX8_twoDimensions_179 rfl rfl ?_
                refine v_if_ne fx 188 dX8_twoDimensions_181 (by decide) rfl (by omega) (fun h_51 => ?_) (fun h_51 => ?_)
                ·
                  refine v_iconst fx dX8_twoDimensions_188 rfl ?_
                  refine v_callV (As := [.int (iI (a2 - a1)), .int (iI 0)]) (rest := []) fx [1, 2, 3, 4, 5, 6, 7] [0] [(h0, ob 8 [.ref xa, .ref xb, .ref xc, .ref xd, .ref xe, .ref xf, .ref xg, .int (iI vc), .int (iI vk), .int (iI vw), .ref xm, .ref xv, .int (iI vg), .ref xw, .int (iI cn1), .int (iI vi), .ref xq, .int (iI ve), .int (iI vf), .int (iI vu), .int (iI vl), .ref xr, .ref xh, .ref xo, .ref xp, .int (iI vr), .int (iI va), .int (iI vt), .int (iI vm), .int (iI vd), .int (iI vx)]), (xw, aI g 72000 f2_47), (xa, aI g 64 (lfT mW 64)), (xb, aI g 64 (lfT mB 64)), (xc, aI g 27 (lfT mWM 27)), (xd, aI g 27 (lfT mBM 27)), (xe, aI g 13 (lfT mBO 13))] [(xv, aZ g 72000 fg)] 2 0 (c_X8_run_e l g h0 xa xb xc xd xe xf xg xm xv xw xq xr xh xo xp vc vk vw vg cn1 vi ve vf vu vl vr va vt vm vd vx f2_47 (a2 - a1) 0 (((T ++ P) ++ codeB 9) ++ runS (a1 - a0) (bk)) (by first | omega | decide | assumption) (by first | omega | decide | assumption) (by first | omega | decide | assumption) (by first | omega | decide | assumption) (by exact hE2)) dX8_twoDimensions_189 k1118 k1120 k25 k57 k1121 ykX8_run rfl rfl rfl rfl rfl rfl rfl rfl (nl rfl) ⟨nl rfl, nl rfl⟩ ⟨(nl rfl), (nl rfl)⟩ rfl (fun v9 w9 hu => ?_)
                  obtain ⟨cn2, f2_52, rfl, rfl, u_53, u_54, u_55⟩ := hu
                  refine v_is (wn := [(xv, aZ g 72000 fg), (h0, ob 8 [.ref xa, .ref xb, .ref xc, .ref xd, .ref xe, .ref xf, .ref xg, .int (iI vc), .int (iI vk), .int (iI vw), .ref xm, .ref xv, .int (iI vg), .ref xw, .int (iI cn2), .int (iI vi), .ref xq, .int (iI ve), .int (iI vf), .int (iI vu), .int (iI vl), .ref xr, .ref xh, .ref xo, .ref xp, .int (iI vr), .int (iI va), .int (iI vt), .int (iI vm), .int (iI vd), .int (iI vx)]), (xw, aI g 72000 f2_52), (xa, aI g 64 (lfT mW 64)), (xb, aI g 64 (lfT mB 64)), (xc, aI g 27 (lfT mWM 27)), (xd, aI g 27 (lfT mBM 27)), (xe, aI g 13 (lfT mBO 13))]) (cn := 0) (sn := 0) (sn2 := []) rfl rfl rfl rfl ?_
                  have hE3 := u_55
                  have hbt := bgt_hor (k1 := cn1 - cm) (k2 := cn2 - cn1) (bk := bk) (a1 := a1) (w := vw) (a0 := a0) (by omega) hrs (by omega) ha2 (by omega) (by omega) (by omega)
                  have hPn := PreT_hor hi5_4 (by omega) hmA hmB hea hea2 hq1 hq2 (by omega) (by omega) rfl (z1 := (a1 - a0)) (by rw [← rs0_of hrs]) rfl (z2 := a2 - a1) rfl (g2 := 0) (by omega)
                  rw [List.append_assoc, List.append_assoc, List.append_assoc] at hE3
                  rw [List.append_assoc, List.append_assoc] at hPn
                  have hEn := hE3
                  refine v_iload fx 0 dX8_twoDimensions_192 rfl rfl ?_
                  refine v_istore_n fx [(3, .int (iI a2)), (8, .int (iI a2)), (7, .int (iI (a1 - q1))), (6, .int (iI q1)), (5, .int (iI a1)), (0, .ref h0), (1, .int (iI ba)), (2, .int (iI ab)), (4, .int (iI bk))] dX8_twoDimensions_194 (by decide) rfl rfl ?_
                  refine v_goto fx 5 dX8_twoDimensions_195 (by decide) ?_
                  refine v_ws [1, 2, 0, 3, 4, 5, 6, 7] [(h0, ob 8 [.ref xa, .ref xb, .ref xc, .ref xd, .ref xe, .ref xf, .ref xg, .int (iI vc), .int (iI vk), .int (iI vw), .ref xm, .ref xv, .int (iI vg), .ref xw, .int (iI cn2), .int (iI vi), .ref xq, .int (iI ve), .int (iI vf), .int (iI vu), .int (iI vl), .ref xr, .ref xh, .ref xo, .ref xp, .int (iI vr), .int (iI va), .int (iI vt), .int (iI vm), .int (iI vd), .int (iI vx)]), (xw, aI g 72000 f2_52), (xv, aZ g 72000 fg), (xa, aI g 64 (lfT mW 64)), (xb, aI g 64 (lfT mB 64)), (xc, aI g 27 (lfT mWM 27)), (xd, aI g 27 (lfT mBM 27)), (xe, aI g 13 (lfT mBO 13))] rfl rfl ?_
                  refine v_lv [5, 6, 7, 0, 8] [(0, .ref h0), (1, .int (iI ba)), (2, .int (iI ab)), (3, .int (iI a2)), (4, .int (iI bk))] rfl ?_
                  exact ihL5 a2 bk cn2 f2_52 (P ++ (codeB 9 ++ ((runS (a1 - a0) (bk)) ++ runS (a2 - a1) (0)))) (by omega) (by omega) (by omega) (by exact hEn) (by first | exact hPn | exact hPn0 _ (by omega)) (by omega)
                ·
                  refine v_iconst fx dX8_twoDimensions_184 rfl ?_
                  refine v_goto fx 189 dX8_twoDimensions_185 (by decide) ?_
                  refine v_callV (As := [.int (iI (a2 - a1)), .int (iI 1)]) (rest := []) fx [1, 2, 3, 4, 5, 6, 7] [0] [(h0, ob 8 [.ref xa, .ref xb, .ref xc, .ref xd, .ref xe, .ref xf, .ref xg, .int (iI vc), .int (iI vk), .int (iI vw), .ref xm, .ref xv, .int (iI vg), .ref xw, .int (iI cn1), .int (iI vi), .ref xq, .int (iI ve), .int (iI vf), .int (iI vu), .int (iI vl), .ref xr, .ref xh, .ref xo, .ref xp, .int (iI vr), .int (iI va), .int (iI vt), .int (iI vm), .int (iI vd), .int (iI vx)]), (xw, aI g 72000 f2_47), (xa, aI g 64 (lfT mW 64)), (xb, aI g 64 (lfT mB 64)), (xc, aI g 27 (lfT mWM 27)), (xd, aI g 27 (lfT mBM 27)), (xe, aI g 13 (lfT mBO 13))] [(xv, aZ g 72000 fg)] 2 0 (c_X8_run_e l g h0 xa xb xc xd xe xf xg xm xv xw xq xr xh xo xp vc vk vw vg cn1 vi ve vf vu vl vr va vt vm vd vx f2_47 (a2 - a1) 1 (((T ++ P) ++ codeB 9) ++ runS (a1 - a0) (bk)) (by first | omega | decide | assumption) (by first | omega | decide | assumption) (by first | omega | decide | assumption) (by first | omega | decide | assumption) (by exact hE2)) dX8_twoDimensions_189 k1118 k1120 k25 k57 k1121 ykX8_run rfl rfl rfl rfl rfl rfl rfl rfl (nl rfl) ⟨nl rfl, nl rfl⟩ ⟨(nl rfl), (nl rfl)⟩ rfl (fun v9 w9 hu => ?_)
                  obtain ⟨cn2, f2_56, rfl, rfl, u_57, u_58, u_59⟩ := hu
                  refine v_is (wn := [(xv, aZ g 72000 fg), (h0, ob 8 [.ref xa, .ref xb, .ref xc, .ref xd, .ref xe, .ref xf, .ref xg, .int (iI vc), .int (iI vk), .int (iI vw), .ref xm, .ref xv, .int (iI vg), .ref xw, .int (iI cn2), .int (iI vi), .ref xq, .int (iI ve), .int (iI vf), .int (iI vu), .int (iI vl), .ref xr, .ref xh, .ref xo, .ref xp, .int (iI vr), .int (iI va), .int (iI vt), .int (iI vm), .int (iI vd), .int (iI vx)]), (xw, aI g 72000 f2_56), (xa, aI g 64 (lfT mW 64)), (xb, aI g 64 (lfT mB 64)), (xc, aI g 27 (lfT mWM 27)), (xd, aI g 27 (lfT mBM 27)), (xe, aI g 13 (lfT mBO 13))]) (cn := 0) (sn := 0) (sn2 := []) rfl rfl rfl rfl ?_
                  have hE3 := u_59
                  have hbt := bgt_hor (k1 := cn1 - cm) (k2 := cn2 - cn1) (bk := bk) (a1 := a1) (w := vw) (a0 := a0) (by omega) hrs (by omega) ha2 (by omega) (by omega) (by omega)
                  have hPn := PreT_hor hi5_4 (by omega) hmA hmB hea hea2 hq1 hq2 (by omega) (by omega) rfl (z1 := (a1 - a0)) (by rw [← rs0_of hrs]) rfl (z2 := a2 - a1) rfl (g2 := 1) (by omega)
                  rw [List.append_assoc, List.append_assoc, List.append_assoc] at hE3
                  rw [List.append_assoc, List.append_assoc] at hPn
                  have hEn := hE3
                  refine v_iload fx 0 dX8_twoDimensions_192 rfl rfl ?_
                  refine v_istore_n fx [(3, .int (iI a2)), (8, .int (iI a2)), (7, .int (iI (a1 - q1))), (6, .int (iI q1)), (5, .int (iI a1)), (0, .ref h0), (1, .int (iI ba)), (2, .int (iI ab)), (4, .int (iI bk))] dX8_twoDimensions_194 (by decide) rfl rfl ?_
                  refine v_goto fx 5 dX8_twoDimensions_195 (by decide) ?_
                  refine v_ws [1, 2, 0, 3, 4, 5, 6, 7] [(h0, ob 8 [.ref xa, .ref xb, .ref xc, .ref xd, .ref xe, .ref xf, .ref xg, .int (iI vc), .int (iI vk), .int (iI vw), .ref xm, .ref xv, .int (iI vg), .ref xw, .int (iI cn2), .int (iI vi), .ref xq, .int (iI ve), .int (iI vf), .int (iI vu), .int (iI vl), .ref xr, .ref xh, .ref xo, .ref xp, .int (iI vr), .int (iI va), .int (iI vt), .int (iI vm), .int (iI vd), .int (iI vx)]), (xw, aI g 72000 f2_56), (xv, aZ g 72000 fg), (xa, aI g 64 (lfT mW 64)), (xb, aI g 64 (lfT mB 64)), (xc, aI g 27 (lfT mWM 27)), (xd, aI g 27 (lfT mBM 27)), (xe, aI g 13 (lfT mBO 13))] rfl rfl ?_
                  refine v_lv [5, 6, 7, 0, 8] [(0, .ref h0), (1, .int (iI ba)), (2, .int (iI ab)), (3, .int (iI a2)), (4, .int (iI bk))] rfl ?_
                  exact ihL5 a2 bk cn2 f2_56 (P ++ (codeB 9 ++ ((runS (a1 - a0) (bk)) ++ runS (a2 - a1) (1)))) (by omega) (by omega) (by omega) (by exact hEn) (by first | exact hPn | exact hPn0 _ (by omega)) (by omega)
              ·
                have hrs : (a0 < 0 ∧ (0 : Int) = 0) ∨ (0 ≤ a0 ∧ (0 : Int) = a0) := Or.inl ⟨h_46, rfl⟩
                refine v_iconst fx dX8_twoDimensions_162 rfl ?_
                refine v_goto fx 167 dX8_twoDimensions_163 (by decide) ?_
                refine v_isub fx (a1 - 0) dX8_twoDimensions_167 (by rfl) rfl ?_
                refine v_iload fx 8 dX8_twoDimensions_168 rfl rfl ?_
                refine v_callV (As := [.int (iI (a1 - 0)), .int (iI bk)]) (rest := []) fx [6, 7, 0, 1, 2, 3, 4] [5] [(h0, ob 8 [.ref xa, .ref xb, .ref xc, .ref xd, .ref xe, .ref xf, .ref xg, .int (iI vc), .int (iI vk), .int (iI vw), .ref xm, .ref xv, .int (iI vg), .ref xw, .int (iI cm), .int (iI vi), .ref xq, .int (iI ve), .int (iI vf), .int (iI vu), .int (iI vl), .ref xr, .ref xh, .ref xo, .ref xp, .int (iI vr), .int (iI va), .int (iI vt), .int (iI vm), .int (iI vd), .int (iI vx)]), (xw, aI g 72000 f2_43), (xa, aI g 64 (lfT mW 64)), (xb, aI g 64 (lfT mB 64)), (xc, aI g 27 (lfT mWM 27)), (xd, aI g 27 (lfT mBM 27)), (xe, aI g 13 (lfT mBO 13))] [(xv, aZ g 72000 fg)] 2 0 (c_X8_run_e l g h0 xa xb xc xd xe xf xg xm xv xw xq xr xh xo xp vc vk vw vg cm vi ve vf vu vl vr va vt vm vd vx f2_43 (a1 - 0) bk ((T ++ P) ++ codeB 9) (by first | omega | decide | assumption) (by first | omega | decide | assumption) (by first | omega | decide | assumption) (by first | omega | decide | assumption) (by exact hE1)) dX8_twoDimensions_170 k1118 k1120 k25 k57 k1121 ykX8_run rfl rfl rfl rfl rfl rfl rfl rfl (nl rfl) ⟨nl rfl, nl rfl⟩ ⟨(nl rfl), (nl rfl)⟩ rfl (fun v9 w9 hu => ?_)
                obtain ⟨cn1, f2_60, rfl, rfl, u_61, u_62, u_63⟩ := hu
                refine v_is (wn := [(xv, aZ g 72000 fg), (h0, ob 8 [.ref xa, .ref xb, .ref xc, .ref xd, .ref xe, .ref xf, .ref xg, .int (iI vc), .int (iI vk), .int (iI vw), .ref xm, .ref xv, .int (iI vg), .ref xw, .int (iI cn1), .int (iI vi), .ref xq, .int (iI ve), .int (iI vf), .int (iI vu), .int (iI vl), .ref xr, .ref xh, .ref xo, .ref xp, .int (iI vr), .int (iI va), .int (iI vt), .int (iI vm), .int (iI vd), .int (iI vx)]), (xw, aI g 72000 f2_60), (xa, aI g 64 (lfT mW 64)), (xb, aI g 64 (lfT mB 64)), (xc, aI g 27 (lfT mWM 27)), (xd, aI g 27 (lfT mBM 27)), (xe, aI g 13 (lfT mBO 13))]) (cn := 0) (sn := 0) (sn2 := []) rfl rfl rfl rfl ?_
                have hE2 := u_63
                have hbr := bgt_run (k1 := cn1 - cm) (bk := bk) (w := vw) (a1 := a1) (a0 := a0) (by omega) hrs (by omega) (by omega) (by omega)
                refine v_aload_n fx 4 dX8_twoDimensions_173 rfl rfl ?_
                refine v_iload fx 0 dX8_twoDimensions_174 rfl rfl ?_
                refine v_iload fx 3 dX8_twoDimensions_176 rfl rfl ?_
                refine v_isub fx (a2 - a1) dX8_twoDimensions_178 (by rfl) rfl ?_
                refine v_iload fx 8 dX8_twoDimensions_179 rfl rfl ?_
                refine v_if_ne fx 188 dX8_twoDimensions_181 (by decide) rfl (by omega) (fun h_64 => ?_) (fun h_64 => ?_)
                ·
                  refine v_iconst fx dX8_twoDimensions_188 rfl ?_
                  refine v_callV (As := [.int (iI (a2 - a1)), .int (iI 0)]) (rest := []) fx [1, 2, 3, 4, 5, 6, 7] [0] [(h0, ob 8 [.ref xa, .ref xb, .ref xc, .ref xd, .ref xe, .ref xf, .ref xg, .int (iI vc), .int (iI vk), .int (iI vw), .ref xm, .ref xv, .int (iI vg), .ref xw, .int (iI cn1), .int (iI vi), .ref xq, .int (iI ve), .int (iI vf), .int (iI vu), .int (iI vl), .ref xr, .ref xh, .ref xo, .ref xp, .int (iI vr), .int (iI va), .int (iI vt), .int (iI vm), .int (iI vd), .int (iI vx)]), (xw, aI g 72000 f2_60), (xa, aI g 64 (lfT mW 64)), (xb, aI g 64 (lfT mB 64)), (xc, aI g 27 (lfT mWM 27)), (xd, aI g 27 (lfT mBM 27)), (xe, aI g 13 (lfT mBO 13))] [(xv, aZ g 72000 fg)] 2 0 (c_X8_run_e l g h0 xa xb xc xd xe xf xg xm xv xw xq xr xh xo xp vc vk vw vg cn1 vi ve vf vu vl vr va vt vm vd vx f2_60 (a2 - a1) 0 (((T ++ P) ++ codeB 9) ++ runS (a1 - 0) (bk)) (by first | omega | decide | assumption) (by first | omega | decide | assumption) (by first | omega | decide | assumption) (by first | omega | decide | assumption) (by exact hE2)) dX8_twoDimensions_189 k1118 k1120 k25 k57 k1121 ykX8_run rfl rfl rfl rfl rfl rfl rfl rfl (nl rfl) ⟨nl rfl, nl rfl⟩ ⟨(nl rfl), (nl rfl)⟩ rfl (fun v9 w9 hu => ?_)
                  obtain ⟨cn2, f2_65, rfl, rfl, u_66, u_67, u_68⟩ := hu
                  refine v_is (wn := [(xv, aZ g 72000 fg), (h0, ob 8 [.ref xa, .ref xb, .ref xc, .ref xd, .ref xe, .ref xf, .ref xg, .int (iI vc), .int (iI vk), .int (iI vw), .ref xm, .ref xv, .int (iI vg), .ref xw, .int (iI cn2), .int (iI vi), .ref xq, .int (iI ve), .int (iI vf), .int (iI vu), .int (iI vl), .ref xr, .ref xh, .ref xo, .ref xp, .int (iI vr), .int (iI va), .int (iI vt), .int (iI vm), .int (iI vd), .int (iI vx)]), (xw, aI g 72000 f2_65), (xa, aI g 64 (lfT mW 64)), (xb, aI g 64 (lfT mB 64)), (xc, aI g 27 (lfT mWM 27)), (xd, aI g 27 (lfT mBM 27)), (xe, aI g 13 (lfT mBO 13))]) (cn := 0) (sn := 0) (sn2 := []) rfl rfl rfl rfl ?_
                  have hE3 := u_68
                  have hbt := bgt_hor (k1 := cn1 - cm) (k2 := cn2 - cn1) (bk := bk) (a1 := a1) (w := vw) (a0 := a0) (by omega) hrs (by omega) ha2 (by omega) (by omega) (by omega)
                  have hPn := PreT_hor hi5_4 (by omega) hmA hmB hea hea2 hq1 hq2 (by omega) (by omega) rfl (z1 := (a1 - 0)) (by rw [← rs0_of hrs]) rfl (z2 := a2 - a1) rfl (g2 := 0) (by omega)
                  rw [List.append_assoc, List.append_assoc, List.append_assoc] at hE3
                  rw [List.append_assoc, List.append_assoc] at hPn
                  have hEn := hE3
                  refine v_iload fx 0 dX8_twoDimensions_192 rfl rfl ?_
                  refine v_istore_n fx [(3, .int (iI a2)), (8, .int (iI a2)), (7, .int (iI (a1 - q1))), (6, .int (iI q1)), (5, .int (iI a1)), (0, .ref h0), (1, .int (iI ba)), (2, .int (iI ab)), (4, .int (iI bk))] dX8_twoDimensions_194 (by decide) rfl rfl ?_
                  refine v_goto fx 5 dX8_twoDimensions_195 (by decide) ?_
                  refine v_ws [1, 2, 0, 3, 4, 5, 6, 7] [(h0, ob 8 [.ref xa, .ref xb, .ref xc, .ref xd, .ref xe, .ref xf, .ref xg, .int (iI vc), .int (iI vk), .int (iI vw), .ref xm, .ref xv, .int (iI vg), .ref xw, .int (iI cn2), .int (iI vi), .ref xq, .int (iI ve), .int (iI vf), .int (iI vu), .int (iI vl), .ref xr, .ref xh, .ref xo, .ref xp, .int (iI vr), .int (iI va), .int (iI vt), .int (iI vm), .int (iI vd), .int (iI vx)]), (xw, aI g 72000 f2_65), (xv, aZ g 72000 fg), (xa, aI g 64 (lfT mW 64)), (xb, aI g 64 (lfT mB 64)), (xc, aI g 27 (lfT mWM 27)), (xd, aI g 27 (lfT mBM 27)), (xe, aI g 13 (lfT mBO 13))] rfl rfl ?_
                  refine v_lv [5, 6, 7, 0, 8] [(0, .ref h0), (1, .int (iI ba)), (2, .int (iI ab)), (3, .int (iI a2)), (4, .int (iI bk))] rfl ?_
                  exact ihL5 a2 bk cn2 f2_65 (P ++ (codeB 9 ++ ((runS (a1 - 0) (bk)) ++ runS (a2 - a1) (0)))) (by omega) (by omega) (by omega) (by exact hEn) (by first | exact hPn | exact hPn0 _ (by omega)) (by omega)
                ·
                  refine v_iconst fx dX8_twoDimensions_184 rfl ?_
                  refine v_goto fx 189 dX8_twoDimensions_185 (by decide) ?_
                  refine v_callV (As := [.int (iI (a2 - a1)), .int (iI 1)]) (rest := []) fx [1, 2, 3, 4, 5, 6, 7] [0] [(h0, ob 8 [.ref xa, .ref xb, .ref xc, .ref xd, .ref xe, .ref xf, .ref xg, .int (iI vc), .int (iI vk), .int (iI vw), .ref xm, .ref xv, .int (iI vg), .ref xw, .int (iI cn1), .int (iI vi), .ref xq, .int (iI ve), .int (iI vf), .int (iI vu), .int (iI vl), .ref xr, .ref xh, .ref xo, .ref xp, .int (iI vr), .int (iI va), .int (iI vt), .int (iI vm), .int (iI vd), .int (iI vx)]), (xw, aI g 72000 f2_60), (xa, aI g 64 (lfT mW 64)), (xb, aI g 64 (lfT mB 64)), (xc, aI g 27 (lfT mWM 27)), (xd, aI g 27 (lfT mBM 27)), (xe, aI g 13 (lfT mBO 13))] [(xv, aZ g 72000 fg)] 2 0 (c_X8_run_e l g h0 xa xb xc xd xe xf xg xm xv xw xq xr xh xo xp vc vk vw vg cn1 vi ve vf vu vl vr va vt vm vd vx f2_60 (a2 - a1) 1 (((T ++ P) ++ codeB 9) ++ runS (a1 - 0) (bk)) (by first | omega | decide | assumption) (by first | omega | decide | assumption) (by first | omega | decide | assumption) (by first | omega | decide | assumption) (by exact hE2)) dX8_twoDimensions_189 k1118 k1120 k25 k57 k1121 ykX8_run rfl rfl rfl rfl rfl rfl rfl rfl (nl rfl) ⟨nl rfl, nl rfl⟩ ⟨(nl rfl), (nl rfl)⟩ rfl (fun v9 w9 hu => ?_)
                  obtain ⟨cn2, f2_69, rfl, rfl, u_70, u_71, u_72⟩ := hu
                  refine v_is (wn := [(xv, aZ g 72000 fg), (h0, ob 8 [.ref xa, .ref xb, .ref xc, .ref xd, .ref xe, .ref xf, .ref xg, .int (iI vc), .int (iI vk), .int (iI vw), .ref xm, .ref xv, .int (iI vg), .ref xw, .int (iI cn2), .int (iI vi), .ref xq, .int (iI ve), .int (iI vf), .int (iI vu), .int (iI vl), .ref xr, .ref xh, .ref xo, .ref xp, .int (iI vr), .int (iI va), .int (iI vt), .int (iI vm), .int (iI vd), .int (iI vx)]), (xw, aI g 72000 f2_69), (xa, aI g 64 (lfT mW 64)), (xb, aI g 64 (lfT mB 64)), (xc, aI g 27 (lfT mWM 27)), (xd, aI g 27 (lfT mBM 27)), (xe, aI g 13 (lfT mBO 13))]) (cn := 0) (sn := 0) (sn2 := []) rfl rfl rfl rfl ?_
                  have hE3 := u_72
                  have hbt := bgt_hor (k1 := cn1 - cm) (k2 := cn2 - cn1) (bk := bk) (a1 := a1) (w := vw) (a0 := a0) (by omega) hrs (by omega) ha2 (by omega) (by omega) (by omega)
                  have hPn := PreT_hor hi5_4 (by omega) hmA hmB hea hea2 hq1 hq2 (by omega) (by omega) rfl (z1 := (a1 - 0)) (by rw [← rs0_of hrs]) rfl (z2 := a2 - a1) rfl (g2 := 1) (by omega)
                  rw [List.append_assoc, List.append_assoc, List.append_assoc] at hE3
                  rw [List.append_assoc, List.append_assoc] at hPn
                  have hEn := hE3
                  refine v_iload fx 0 dX8_twoDimensions_192 rfl rfl ?_
                  refine v_istore_n fx [(3, .int (iI a2)), (8, .int (iI a2)), (7, .int (iI (a1 - q1))), (6, .int (iI q1)), (5, .int (iI a1)), (0, .ref h0), (1, .int (iI ba)), (2, .int (iI ab)), (4, .int (iI bk))] dX8_twoDimensions_194 (by decide) rfl rfl ?_
                  refine v_goto fx 5 dX8_twoDimensions_195 (by decide) ?_
                  refine v_ws [1, 2, 0, 3, 4, 5, 6, 7] [(h0, ob 8 [.ref xa, .ref xb, .ref xc, .ref xd, .ref xe, .ref xf, .ref xg, .int (iI vc), .int (iI vk), .int (iI vw), .ref xm, .ref xv, .int (iI vg), .ref xw, .int (iI cn2), .int (iI vi), .ref xq, .int (iI ve), .int (iI vf), .int (iI vu), .int (iI vl), .ref xr, .ref xh, .ref xo, .ref xp, .int (iI vr), .int (iI va), .int (iI vt), .int (iI vm), .int (iI vd), .int (iI vx)]), (xw, aI g 72000 f2_69), (xv, aZ g 72000 fg), (xa, aI g 64 (lfT mW 64)), (xb, aI g 64 (lfT mB 64)), (xc, aI g 27 (lfT mWM 27)), (xd, aI g 27 (lfT mBM 27)), (xe, aI g 13 (lfT mBO 13))] rfl rfl ?_
                  refine v_lv [5, 6, 7, 0, 8] [(0, .ref h0), (1, .int (iI ba)), (2, .int (iI ab)), (3, .int (iI a2)), (4, .int (iI bk))] rfl ?_
                  exact ihL5 a2 bk cn2 f2_69 (P ++ (codeB 9 ++ ((runS (a1 - 0) (bk)) ++ runS (a2 - a1) (1)))) (by omega) (by omega) (by omega) (by exact hEn) (by first | exact hPn | exact hPn0 _ (by omega)) (by omega)
          ·
            refine v_iload fx 0 dX8_twoDimensions_90 rfl rfl ?_
            refine v_iconst fx dX8_twoDimensions_92 rfl ?_
            refine v_icmp_gt fx 120 dX8_twoDimensions_93 (by decide) rfl (by omega) (by omega) (fun h_73 => ?_) (fun h_73 => ?_)
            ·
              refine v_iload fx 2 dX8_twoDimensions_120 rfl rfl ?_
              refine v_aload_n fx 3 dX8_twoDimensions_122 rfl rfl ?_
              refine v_get fx 6 9 inX8 k1005 dX8_twoDimensions_123 rfl rfl (by decide) rfl rfl rfl ?_
              refine v_icmp_ge fx 143 dX8_twoDimensions_126 (by decide) rfl (by omega) (by omega) (fun h_74 => ?_) (fun h_74 => ?_)
              ·
                have ha2 : (a1 < vw ∧ vw ≤ vw) ∨ (a1 = vw ∧ vw = vw) := Or.inr ⟨by omega, rfl⟩
                have hea2 : vw = A (k + 1) := (SmpB_w hSA hmA.1 (by omega)).2.symm
                refine v_aload_n fx 3 dX8_twoDimensions_143 rfl rfl ?_
                refine v_get fx 6 9 inX8 k1005 dX8_twoDimensions_144 rfl rfl (by decide) rfl rfl rfl ?_
                refine v_istore fx [(8, .int (iI vw)), (7, .int (iI (a1 - q1))), (6, .int (iI q1)), (5, .int (iI a1)), (0, .ref h0), (1, .int (iI ba)), (2, .int (iI ab)), (3, .int (iI a0)), (4, .int (iI bk))] dX8_twoDimensions_147 (by decide) rfl rfl ?_
                refine v_aload_n fx 4 dX8_twoDimensions_149 rfl rfl ?_
                refine v_iconst fx dX8_twoDimensions_150 rfl ?_
                refine v_iconst fx dX8_twoDimensions_151 rfl ?_
                refine v_callV (As := [.int (iI 1), .int (iI 3)]) (rest := []) fx [6, 0] [1, 2, 3, 4, 5, 7] [(h0, ob 8 [.ref xa, .ref xb, .ref xc, .ref xd, .ref xe, .ref xf, .ref xg, .int (iI vc), .int (iI vk), .int (iI vw), .ref xm, .ref xv, .int (iI vg), .ref xw, .int (iI b1), .int (iI vi), .ref xq, .int (iI ve), .int (iI vf), .int (iI vu), .int (iI vl), .ref xr, .ref xh, .ref xo, .ref xp, .int (iI vr), .int (iI va), .int (iI vt), .int (iI vm), .int (iI vd), .int (iI vx)]), (xw, aI g 72000 f1)] [(xa, aI g 64 (lfT mW 64)), (xb, aI g 64 (lfT mB 64)), (xc, aI g 27 (lfT mWM 27)), (xd, aI g 27 (lfT mBM 27)), (xe, aI g 13 (lfT mBO 13)), (xv, aZ g 72000 fg)] 2 0 (c_X8_number_e l g h0 xa xb xc xd xe xf xg xm xv xw xq xr xh xo xp vc vk vw vg b1 vi ve vf vu vl vr va vt vm vd vx f1 1 3 (T ++ P) (by first | omega | decide | assumption) (by first | omega | decide | assumption) (by first | omega | decide | assumption) (by exact hi5_3)) dX8_twoDimensions_152 k1106 k1108 k22 k57 k1109 ykX8_number rfl rfl rfl rfl rfl rfl rfl rfl (nl rfl) ⟨nl rfl, nl rfl⟩ ⟨(nl rfl), (nl rfl)⟩ rfl (fun v9 w9 hu => ?_)
                obtain ⟨cm, f2_75, rfl, rfl, u_76, u_77⟩ := hu
                refine v_is (wn := [(xa, aI g 64 (lfT mW 64)), (xb, aI g 64 (lfT mB 64)), (xc, aI g 27 (lfT mWM 27)), (xd, aI g 27 (lfT mBM 27)), (xe, aI g 13 (lfT mBO 13)), (xv, aZ g 72000 fg), (h0, ob 8 [.ref xa, .ref xb, .ref xc, .ref xd, .ref xe, .ref xf, .ref xg, .int (iI vc), .int (iI vk), .int (iI vw), .ref xm, .ref xv, .int (iI vg), .ref xw, .int (iI cm), .int (iI vi), .ref xq, .int (iI ve), .int (iI vf), .int (iI vu), .int (iI vl), .ref xr, .ref xh, .ref xo, .ref xp, .int (iI vr), .int (iI va), .int (iI vt), .int (iI vm), .int (iI vd), .int (iI vx)]), (xw, aI g 72000 f2_75)]) (cn := 0) (sn := 0) (sn2 := []) rfl rfl rfl rfl ?_
                have hE1 := EncR_eq u_77 (show _ = (T ++ P) ++ codeB 9 by rw [cb_hor])
                refine v_aload_n fx 4 dX8_twoDimensions_155 rfl rfl ?_
                refine v_iload fx 3 dX8_twoDimensions_156 rfl rfl ?_
                refine v_iload_n fx 7 dX8_twoDimensions_158 rfl rfl ?_
                refine v_if_ge fx 166 dX8_twoDimensions_159 (by decide) rfl (by omega) (fun h_78 => ?_) (fun h_78 => ?_)
                ·
                  have hrs : (a0 < 0 ∧ a0 = 0) ∨ (0 ≤ a0 ∧ a0 = a0) := Or.inr ⟨h_78, rfl⟩
                  refine v_iload_n fx 7 dX8_twoDimensions_166 rfl rfl ?_
                  refine v_isub fx (a1 - a0) dX8_twoDimensions_167 (by rfl) rfl ?_
                  refine v_iload fx 8 dX8_twoDimensions_168 rfl rfl ?_
                  refine v_callV (As := [.int (iI (a1 - a0)), .int (iI bk)]) (rest := []) fx [6, 7, 0, 1, 2, 3, 4] [5] [(h0, ob 8 [.ref xa, .ref xb, .ref xc, .ref xd, .ref xe, .ref xf, .ref xg, .int (iI vc), .int (iI vk), .int (iI vw), .ref xm, .ref xv, .int (iI vg), .ref xw, .int (iI cm), .int (iI vi), .ref xq, .int (iI ve), .int (iI vf), .int (iI vu), .int (iI vl), .ref xr, .ref xh, .ref xo, .ref xp, .int (iI vr), .int (iI va), .int (iI vt), .int (iI vm), .int (iI vd), .int (iI vx)]), (xw, aI g 72000 f2_75), (xa, aI g 64 (lfT mW 64)), (xb, aI g 64 (lfT mB 64)), (xc, aI g 27 (lfT mWM 27)), (xd, aI g 27 (lfT mBM 27)), (xe, aI g 13 (lfT mBO 13))] [(xv, aZ g 72000 fg)] 2 0 (c_X8_run_e l g h0 xa xb xc xd xe xf xg xm xv xw xq xr xh xo xp vc vk vw vg cm vi ve vf vu vl vr va vt vm vd vx f2_75 (a1 - a0) bk ((T ++ P) ++ codeB 9) (by first | omega | decide | assumption) (by first | omega | decide | assumption) (by first | omega | decide | assumption) (by first | omega | decide | assumption) (by exact hE1)) dX8_twoDimensions_170 k1118 k1120 k25 k57 k1121 ykX8_run rfl rfl rfl rfl rfl rfl rfl rfl (nl rfl) ⟨nl rfl, nl rfl⟩ ⟨(nl rfl), (nl rfl)⟩ rfl (fun v9 w9 hu => ?_)
                  obtain ⟨cn1, f2_79, rfl, rfl, u_80, u_81, u_82⟩ := hu
                  refine v_is (wn := [(xv, aZ g 72000 fg), (h0, ob 8 [.ref xa, .ref xb, .ref xc, .ref xd, .ref xe, .ref xf, .ref xg, .int (iI vc), .int (iI vk), .int (iI vw), .ref xm, .ref xv, .int (iI vg), .ref xw, .int (iI cn1), .int (iI vi), .ref xq, .int (iI ve), .int (iI vf), .int (iI vu), .int (iI vl), .ref xr, .ref xh, .ref xo, .ref xp, .int (iI vr), .int (iI va), .int (iI vt), .int (iI vm), .int (iI vd), .int (iI vx)]), (xw, aI g 72000 f2_79), (xa, aI g 64 (lfT mW 64)), (xb, aI g 64 (lfT mB 64)), (xc, aI g 27 (lfT mWM 27)), (xd, aI g 27 (lfT mBM 27)), (xe, aI g 13 (lfT mBO 13))]) (cn := 0) (sn := 0) (sn2 := []) rfl rfl rfl rfl ?_
                  have hE2 := u_82
                  have hbr := bgt_run (k1 := cn1 - cm) (bk := bk) (w := vw) (a1 := a1) (a0 := a0) (by omega) hrs (by omega) (by omega) (by omega)
                  refine v_aload_n fx 4 dX8_twoDimensions_173 rfl rfl ?_
                  refine v_iload fx 0 dX8_twoDimensions_174 rfl rfl ?_
                  refine v_iload fx 3 dX8_twoDimensions_176 rfl rfl ?_
                  refine v_isub fx (vw - a1) dX8_twoDimensions_178 (by rfl) rfl ?_
                  refine v_iload fx 8 dX8_twoDimensions_179 rfl rfl ?_
                  refine v_if_ne fx 188 dX8_twoDimensions_181 (by decide) rfl (by omega) (fun h_83 => ?_) (fun h_83 => ?_)
                  ·
                    refine v_iconst fx dX8_twoDimensions_188 rfl ?_
                    refine v_callV (As := [.int (iI (vw - a1)), .int (iI 0)]) (rest := []) fx [1, 2, 3, 4, 5, 6, 7] [0] [(h0, ob 8 [.ref xa, .ref xb, .ref xc, .ref xd, .ref xe, .ref xf, .ref xg, .int (iI vc), .int (iI vk), .int (iI vw), .ref xm, .ref xv, .int (iI vg), .ref xw, .int (iI cn1), .int (iI vi), .ref xq, .int (iI ve), .int (iI vf), .int (iI vu), .int (iI vl), .ref xr, .ref xh, .ref xo, .ref xp, .int (iI vr), .int (iI va), .int (iI vt), .int (iI vm), .int (iI vd), .int (iI vx)]), (xw, aI g 72000 f2_79), (xa, aI g 64 (lfT mW 64)), (xb, aI g 64 (lfT mB 64)), (xc, aI g 27 (lfT mWM 27)), (xd, aI g 27 (lfT mBM 27)), (xe, aI g 13 (lfT mBO 13))] [(xv, aZ g 72000 fg)] 2 0 (c_X8_run_e l g h0 xa xb xc xd xe xf xg xm xv xw xq xr xh xo xp vc vk vw vg cn1 vi ve vf vu vl vr va vt vm vd vx f2_79 (vw - a1) 0 (((T ++ P) ++ codeB 9) ++ runS (a1 - a0) (bk)) (by first | omega | decide | assumption) (by first | omega | decide | assumption) (by first | omega | decide | assumption) (by first | omega | decide | assumption) (by exact hE2)) dX8_twoDimensions_189 k1118 k1120 k25 k57 k1121 ykX8_run rfl rfl rfl rfl rfl rfl rfl rfl (nl rfl) ⟨nl rfl, nl rfl⟩ ⟨(nl rfl), (nl rfl)⟩ rfl (fun v9 w9 hu => ?_)
                    obtain ⟨cn2, f2_84, rfl, rfl, u_85, u_86, u_87⟩ := hu
                    refine v_is (wn := [(xv, aZ g 72000 fg), (h0, ob 8 [.ref xa, .ref xb, .ref xc, .ref xd, .ref xe, .ref xf, .ref xg, .int (iI vc), .int (iI vk), .int (iI vw), .ref xm, .ref xv, .int (iI vg), .ref xw, .int (iI cn2), .int (iI vi), .ref xq, .int (iI ve), .int (iI vf), .int (iI vu), .int (iI vl), .ref xr, .ref xh, .ref xo, .ref xp, .int (iI vr), .int (iI va), .int (iI vt), .int (iI vm), .int (iI vd), .int (iI vx)]), (xw, aI g 72000 f2_84), (xa, aI g 64 (lfT mW 64)), (xb, aI g 64 (lfT mB 64)), (xc, aI g 27 (lfT mWM 27)), (xd, aI g 27 (lfT mBM 27)), (xe, aI g 13 (lfT mBO 13))]) (cn := 0) (sn := 0) (sn2 := []) rfl rfl rfl rfl ?_
                    have hE3 := u_87
                    have hbt := bgt_hor (k1 := cn1 - cm) (k2 := cn2 - cn1) (bk := bk) (a1 := a1) (w := vw) (a0 := a0) (by omega) hrs (by omega) ha2 (by omega) (by omega) (by omega)
                    have hPn := PreT_hor hi5_4 (by omega) hmA hmB hea hea2 hq1 hq2 (by omega) (by omega) rfl (z1 := (a1 - a0)) (by rw [← rs0_of hrs]) rfl (z2 := vw - a1) rfl (g2 := 0) (by omega)
                    rw [List.append_assoc, List.append_assoc, List.append_assoc] at hE3
                    rw [List.append_assoc, List.append_assoc] at hPn
                    have hEn := hE3
                    refine v_iload fx 0 dX8_twoDimensions_192 rfl rfl ?_
                    refine v_istore_n fx [(3, .int (iI vw)), (8, .int (iI vw)), (7, .int (iI (a1 - q1))), (6, .int (iI q1)), (5, .int (iI a1)), (0, .ref h0), (1, .int (iI ba)), (2, .int (iI ab)), (4, .int (iI bk))] dX8_twoDimensions_194 (by decide) rfl rfl ?_
                    refine v_goto fx 5 dX8_twoDimensions_195 (by decide) ?_
                    refine v_ws [1, 2, 0, 3, 4, 5, 6, 7] [(h0, ob 8 [.ref xa, .ref xb, .ref xc, .ref xd, .ref xe, .ref xf, .ref xg, .int (iI vc), .int (iI vk), .int (iI vw), .ref xm, .ref xv, .int (iI vg), .ref xw, .int (iI cn2), .int (iI vi), .ref xq, .int (iI ve), .int (iI vf), .int (iI vu), .int (iI vl), .ref xr, .ref xh, .ref xo, .ref xp, .int (iI vr), .int (iI va), .int (iI vt), .int (iI vm), .int (iI vd), .int (iI vx)]), (xw, aI g 72000 f2_84), (xv, aZ g 72000 fg), (xa, aI g 64 (lfT mW 64)), (xb, aI g 64 (lfT mB 64)), (xc, aI g 27 (lfT mWM 27)), (xd, aI g 27 (lfT mBM 27)), (xe, aI g 13 (lfT mBO 13))] rfl rfl ?_
                    refine v_lv [5, 6, 7, 0, 8] [(0, .ref h0), (1, .int (iI ba)), (2, .int (iI ab)), (3, .int (iI vw)), (4, .int (iI bk))] rfl ?_
                    exact ihL5 vw bk cn2 f2_84 (P ++ (codeB 9 ++ ((runS (a1 - a0) (bk)) ++ runS (vw - a1) (0)))) (by omega) (by omega) (by omega) (by exact hEn) (by first | exact hPn | exact hPn0 _ (by omega)) (by omega)
                  ·
                    refine v_iconst fx dX8_twoDimensions_184 rfl ?_
                    refine v_goto fx 189 dX8_twoDimensions_185 (by decide) ?_
                    refine v_callV (As := [.int (iI (vw - a1)), .int (iI 1)]) (rest := []) fx [1, 2, 3, 4, 5, 6, 7] [0] [(h0, ob 8 [.ref xa, .ref xb, .ref xc, .ref xd, .ref xe, .ref xf, .ref xg, .int (iI vc), .int (iI vk), .int (iI vw), .ref xm, .ref xv, .int (iI vg), .ref xw, .int (iI cn1), .int (iI vi), .ref xq, .int (iI ve), .int (iI vf), .int (iI vu), .int (iI vl), .ref xr, .ref xh, .ref xo, .ref xp, .int (iI vr), .int (iI va), .int (iI vt), .int (iI vm), .int (iI vd), .int (iI vx)]), (xw, aI g 72000 f2_79), (xa, aI g 64 (lfT mW 64)), (xb, aI g 64 (lfT mB 64)), (xc, aI g 27 (lfT mWM 27)), (xd, aI g 27 (lfT mBM 27)), (xe, aI g 13 (lfT mBO 13))] [(xv, aZ g 72000 fg)] 2 0 (c_X8_run_e l g h0 xa xb xc xd xe xf xg xm xv xw xq xr xh xo xp vc vk vw vg cn1 vi ve vf vu vl vr va vt vm vd vx f2_79 (vw - a1) 1 (((T ++ P) ++ codeB 9) ++ runS (a1 - a0) (bk)) (by first | omega | decide | assumption) (by first | omega | decide | assumption) (by first | omega | decide | assumption) (by first | omega | decide | assumption) (by exact hE2)) dX8_twoDimensions_189 k1118 k1120 k25 k57 k1121 ykX8_run rfl rfl rfl rfl rfl rfl rfl rfl (nl rfl) ⟨nl rfl, nl rfl⟩ ⟨(nl rfl), (nl rfl)⟩ rfl (fun v9 w9 hu => ?_)
                    obtain ⟨cn2, f2_88, rfl, rfl, u_89, u_90, u_91⟩ := hu
                    refine v_is (wn := [(xv, aZ g 72000 fg), (h0, ob 8 [.ref xa, .ref xb, .ref xc, .ref xd, .ref xe, .ref xf, .ref xg, .int (iI vc), .int (iI vk), .int (iI vw), .ref xm, .ref xv, .int (iI vg), .ref xw, .int (iI cn2), .int (iI vi), .ref xq, .int (iI ve), .int (iI vf), .int (iI vu), .int (iI vl), .ref xr, .ref xh, .ref xo, .ref xp, .int (iI vr), .int (iI va), .int (iI vt), .int (iI vm), .int (iI vd), .int (iI vx)]), (xw, aI g 72000 f2_88), (xa, aI g 64 (lfT mW 64)), (xb, aI g 64 (lfT mB 64)), (xc, aI g 27 (lfT mWM 27)), (xd, aI g 27 (lfT mBM 27)), (xe, aI g 13 (lfT mBO 13))]) (cn := 0) (sn := 0) (sn2 := []) rfl rfl rfl rfl ?_
                    have hE3 := u_91
                    have hbt := bgt_hor (k1 := cn1 - cm) (k2 := cn2 - cn1) (bk := bk) (a1 := a1) (w := vw) (a0 := a0) (by omega) hrs (by omega) ha2 (by omega) (by omega) (by omega)
                    have hPn := PreT_hor hi5_4 (by omega) hmA hmB hea hea2 hq1 hq2 (by omega) (by omega) rfl (z1 := (a1 - a0)) (by rw [← rs0_of hrs]) rfl (z2 := vw - a1) rfl (g2 := 1) (by omega)
                    rw [List.append_assoc, List.append_assoc, List.append_assoc] at hE3
                    rw [List.append_assoc, List.append_assoc] at hPn
                    have hEn := hE3
                    refine v_iload fx 0 dX8_twoDimensions_192 rfl rfl ?_
                    refine v_istore_n fx [(3, .int (iI vw)), (8, .int (iI vw)), (7, .int (iI (a1 - q1))), (6, .int (iI q1)), (5, .int (iI a1)), (0, .ref h0), (1, .int (iI ba)), (2, .int (iI ab)), (4, .int (iI bk))] dX8_twoDimensions_194 (by decide) rfl rfl ?_
                    refine v_goto fx 5 dX8_twoDimensions_195 (by decide) ?_
                    refine v_ws [1, 2, 0, 3, 4, 5, 6, 7] [(h0, ob 8 [.ref xa, .ref xb, .ref xc, .ref xd, .ref xe, .ref xf, .ref xg, .int (iI vc), .int (iI vk), .int (iI vw), .ref xm, .ref xv, .int (iI vg), .ref xw, .int (iI cn2), .int (iI vi), .ref xq, .int (iI ve), .int (iI vf), .int (iI vu), .int (iI vl), .ref xr, .ref xh, .ref xo, .ref xp, .int (iI vr), .int (iI va), .int (iI vt), .int (iI vm), .int (iI vd), .int (iI vx)]), (xw, aI g 72000 f2_88), (xv, aZ g 72000 fg), (xa, aI g 64 (lfT mW 64)), (xb, aI g 64 (lfT mB 64)), (xc, aI g 27 (lfT mWM 27)), (xd, aI g 27 (lfT mBM 27)), (xe, aI g 13 (lfT mBO 13))] rfl rfl ?_
                    refine v_lv [5, 6, 7, 0, 8] [(0, .ref h0), (1, .int (iI ba)), (2, .int (iI ab)), (3, .int (iI vw)), (4, .int (iI bk))] rfl ?_
                    exact ihL5 vw bk cn2 f2_88 (P ++ (codeB 9 ++ ((runS (a1 - a0) (bk)) ++ runS (vw - a1) (1)))) (by omega) (by omega) (by omega) (by exact hEn) (by first | exact hPn | exact hPn0 _ (by omega)) (by omega)
                ·
                  have hrs : (a0 < 0 ∧ (0 : Int) = 0) ∨ (0 ≤ a0 ∧ (0 : Int) = a0) := Or.inl ⟨h_78, rfl⟩
                  refine v_iconst fx dX8_twoDimensions_162 rfl ?_
                  refine v_goto fx 167 dX8_twoDimensions_163 (by decide) ?_
                  refine v_isub fx (a1 - 0) dX8_twoDimensions_167 (by rfl) rfl ?_
                  refine v_iload fx 8 dX8_twoDimensions_168 rfl rfl ?_
                  refine v_callV (As := [.int (iI (a1 - 0)), .int (iI bk)]) (rest := []) fx [6, 7, 0, 1, 2, 3, 4] [5] [(h0, ob 8 [.ref xa, .ref xb, .ref xc, .ref xd, .ref xe, .ref xf, .ref xg, .int (iI vc), .int (iI vk), .int (iI vw), .ref xm, .ref xv, .int (iI vg), .ref xw, .int (iI cm), .int (iI vi), .ref xq, .int (iI ve), .int (iI vf), .int (iI vu), .int (iI vl), .ref xr, .ref xh, .ref xo, .ref xp, .int (iI vr), .int (iI va), .int (iI vt), .int (iI vm), .int (iI vd), .int (iI vx)]), (xw, aI g 72000 f2_75), (xa, aI g 64 (lfT mW 64)), (xb, aI g 64 (lfT mB 64)), (xc, aI g 27 (lfT mWM 27)), (xd, aI g 27 (lfT mBM 27)), (xe, aI g 13 (lfT mBO 13))] [(xv, aZ g 72000 fg)] 2 0 (c_X8_run_e l g h0 xa xb xc xd xe xf xg xm xv xw xq xr xh xo xp vc vk vw vg cm vi ve vf vu vl vr va vt vm vd vx f2_75 (a1 - 0) bk ((T ++ P) ++ codeB 9) (by first | omega | decide | assumption) (by first | omega | decide | assumption) (by first | omega | decide | assumption) (by first | omega | decide | assumption) (by exact hE1)) dX8_twoDimensions_170 k1118 k1120 k25 k57 k1121 ykX8_run rfl rfl rfl rfl rfl rfl rfl rfl (nl rfl) ⟨nl rfl, nl rfl⟩ ⟨(nl rfl), (nl rfl)⟩ rfl (fun v9 w9 hu => ?_)
                  obtain ⟨cn1, f2_92, rfl, rfl, u_93, u_94, u_95⟩ := hu
                  refine v_is (wn := [(xv, aZ g 72000 fg), (h0, ob 8 [.ref xa, .ref xb, .ref xc, .ref xd, .ref xe, .ref xf, .ref xg, .int (iI vc), .int (iI vk), .int (iI vw), .ref xm, .ref xv, .int (iI vg), .ref xw, .int (iI cn1), .int (iI vi), .ref xq, .int (iI ve), .int (iI vf), .int (iI vu), .int (iI vl), .ref xr, .ref xh, .ref xo, .ref xp, .int (iI vr), .int (iI va), .int (iI vt), .int (iI vm), .int (iI vd), .int (iI vx)]), (xw, aI g 72000 f2_92), (xa, aI g 64 (lfT mW 64)), (xb, aI g 64 (lfT mB 64)), (xc, aI g 27 (lfT mWM 27)), (xd, aI g 27 (lfT mBM 27)), (xe, aI g 13 (lfT mBO 13))]) (cn := 0) (sn := 0) (sn2 := []) rfl rfl rfl rfl ?_
                  have hE2 := u_95
                  have hbr := bgt_run (k1 := cn1 - cm) (bk := bk) (w := vw) (a1 := a1) (a0 := a0) (by omega) hrs (by omega) (by omega) (by omega)
                  refine v_aload_n fx 4 dX8_twoDimensions_173 rfl rfl ?_
                  refine v_iload fx 0 dX8_twoDimensions_174 rfl rfl ?_
                  refine v_iload fx 3 dX8_twoDimensions_176 rfl rfl ?_
                  refine v_isub fx (vw - a1) dX8_twoDimensions_178 (by rfl) rfl ?_
                  refine v_iload fx 8 dX8_twoDimensions_179 rfl rfl ?_
                  refine v_if_ne fx 188 dX8_twoDimensions_181 (by decide) rfl (by omega) (fun h_96 => ?_) (fun h_96 => ?_)
                  ·
                    refine v_iconst fx dX8_twoDimensions_188 rfl ?_
                    refine v_callV (As := [.int (iI (vw - a1)), .int (iI 0)]) (rest := []) fx [1, 2, 3, 4, 5, 6, 7] [0] [(h0, ob 8 [.ref xa, .ref xb, .ref xc, .ref xd, .ref xe, .ref xf, .ref xg, .int (iI vc), .int (iI vk), .int (iI vw), .ref xm, .ref xv, .int (iI vg), .ref xw, .int (iI cn1), .int (iI vi), .ref xq, .int (iI ve), .int (iI vf), .int (iI vu), .int (iI vl), .ref xr, .ref xh, .ref xo, .ref xp, .int (iI vr), .int (iI va), .int (iI vt), .int (iI vm), .int (iI vd), .int (iI vx)]), (xw, aI g 72000 f2_92), (xa, aI g 64 (lfT mW 64)), (xb, aI g 64 (lfT mB 64)), (xc, aI g 27 (lfT mWM 27)), (xd, aI g 27 (lfT mBM 27)), (xe, aI g 13 (lfT mBO 13))] [(xv, aZ g 72000 fg)] 2 0 (c_X8_run_e l g h0 xa xb xc xd xe xf xg xm xv xw xq xr xh xo xp vc vk vw vg cn1 vi ve vf vu vl vr va vt vm vd vx f2_92 (vw - a1) 0 (((T ++ P) ++ codeB 9) ++ runS (a1 - 0) (bk)) (by first | omega | decide | assumption) (by first | omega | decide | assumption) (by first | omega | decide | assumption) (by first | omega | decide | assumption) (by exact hE2)) dX8_twoDimensions_189 k1118 k1120 k25 k57 k1121 ykX8_run rfl rfl rfl rfl rfl rfl rfl rfl (nl rfl) ⟨nl rfl, nl rfl⟩ ⟨(nl rfl), (nl rfl)⟩ rfl (fun v9 w9 hu => ?_)
                    obtain ⟨cn2, f2_97, rfl, rfl, u_98, u_99, u_100⟩ := hu
                    refine v_is (wn := [(xv, aZ g 72000 fg), (h0, ob 8 [.ref xa, .ref xb, .ref xc, .ref xd, .ref xe, .ref xf, .ref xg, .int (iI vc), .int (iI vk), .int (iI vw), .ref xm, .ref xv, .int (iI vg), .ref xw, .int (iI cn2), .int (iI vi), .ref xq, .int (iI ve), .int (iI vf), .int (iI vu), .int (iI vl), .ref xr, .ref xh, .ref xo, .ref xp, .int (iI vr), .int (iI va), .int (iI vt), .int (iI vm), .int (iI vd), .int (iI vx)]), (xw, aI g 72000 f2_97), (xa, aI g 64 (lfT mW 64)), (xb, aI g 64 (lfT mB 64)), (xc, aI g 27 (lfT mWM 27)), (xd, aI g 27 (lfT mBM 27)), (xe, aI g 13 (lfT mBO 13))]) (cn := 0) (sn := 0) (sn2 := []) rfl rfl rfl rfl ?_
                    have hE3 := u_100
                    have hbt := bgt_hor (k1 := cn1 - cm) (k2 := cn2 - cn1) (bk := bk) (a1 := a1) (w := vw) (a0 := a0) (by omega) hrs (by omega) ha2 (by omega) (by omega) (by omega)
                    have hPn := PreT_hor hi5_4 (by omega) hmA hmB hea hea2 hq1 hq2 (by omega) (by omega) rfl (z1 := (a1 - 0)) (by rw [← rs0_of hrs]) rfl (z2 := vw - a1) rfl (g2 := 0) (by omega)
                    rw [List.append_assoc, List.append_assoc, List.append_assoc] at hE3
                    rw [List.append_assoc, List.append_assoc] at hPn
                    have hEn := hE3
                    refine v_iload fx 0 dX8_twoDimensions_192 rfl rfl ?_
                    refine v_istore_n fx [(3, .int (iI vw)), (8, .int (iI vw)), (7, .int (iI (a1 - q1))), (6, .int (iI q1)), (5, .int (iI a1)), (0, .ref h0), (1, .int (iI ba)), (2, .int (iI ab)), (4, .int (iI bk))] dX8_twoDimensions_194 (by decide) rfl rfl ?_
                    refine v_goto fx 5 dX8_twoDimensions_195 (by decide) ?_
                    refine v_ws [1, 2, 0, 3, 4, 5, 6, 7] [(h0, ob 8 [.ref xa, .ref xb, .ref xc, .ref xd, .ref xe, .ref xf, .ref xg, .int (iI vc), .int (iI vk), .int (iI vw), .ref xm, .ref xv, .int (iI vg), .ref xw, .int (iI cn2), .int (iI vi), .ref xq, .int (iI ve), .int (iI vf), .int (iI vu), .int (iI vl), .ref xr, .ref xh, .ref xo, .ref xp, .int (iI vr), .int (iI va), .int (iI vt), .int (iI vm), .int (iI vd), .int (iI vx)]), (xw, aI g 72000 f2_97), (xv, aZ g 72000 fg), (xa, aI g 64 (lfT mW 64)), (xb, aI g 64 (lfT mB 64)), (xc, aI g 27 (lfT mWM 27)), (xd, aI g 27 (lfT mBM 27)), (xe, aI g 13 (lfT mBO 13))] rfl rfl ?_
                    refine v_lv [5, 6, 7, 0, 8] [(0, .ref h0), (1, .int (iI ba)), (2, .int (iI ab)), (3, .int (iI vw)), (4, .int (iI bk))] rfl ?_
                    exact ihL5 vw bk cn2 f2_97 (P ++ (codeB 9 ++ ((runS (a1 - 0) (bk)) ++ runS (vw - a1) (0)))) (by omega) (by omega) (by omega) (by exact hEn) (by first | exact hPn | exact hPn0 _ (by omega)) (by omega)
                  ·
                    refine v_iconst fx dX8_twoDimensions_184 rfl ?_
                    refine v_goto fx 189 dX8_twoDimensions_185 (by decide) ?_
                    refine v_callV (As := [.int (iI (vw - a1)), .int (iI 1)]) (rest := []) fx [1, 2, 3, 4, 5, 6, 7] [0] [(h0, ob 8 [.ref xa, .ref xb, .ref xc, .ref xd, .ref xe, .ref xf, .ref xg, .int (iI vc), .int (iI vk), .int (iI vw), .ref xm, .ref xv, .int (iI vg), .ref xw, .int (iI cn1), .int (iI vi), .ref xq, .int (iI ve), .int (iI vf), .int (iI vu), .int (iI vl), .ref xr, .ref xh, .ref xo, .ref xp, .int (iI vr), .int (iI va), .int (iI vt), .int (iI vm), .int (iI vd), .int (iI vx)]), (xw, aI g 72000 f2_92), (xa, aI g 64 (lfT mW 64)), (xb, aI g 64 (lfT mB 64)), (xc, aI g 27 (lfT mWM 27)), (xd, aI g 27 (lfT mBM 27)), (xe, aI g 13 (lfT mBO 13))] [(xv, aZ g 72000 fg)] 2 0 (c_X8_run_e l g h0 xa xb xc xd xe xf xg xm xv xw xq xr xh xo xp vc vk vw vg cn1 vi ve vf vu vl vr va vt vm vd vx f2_92 (vw - a1) 1 (((T ++ P) ++ codeB 9) ++ runS (a1 - 0) (bk)) (by first | omega | decide | assumption) (by first | omega | decide | assumption) (by first | omega | decide | assumption) (by first | omega | decide | assumption) (by exact hE2)) dX8_twoDimensions_189 k1118 k1120 k25 k57 k1121 ykX8_run rfl rfl rfl rfl rfl rfl rfl rfl (nl rfl) ⟨nl rfl, nl rfl⟩ ⟨(nl rfl), (nl rfl)⟩ rfl (fun v9 w9 hu => ?_)
                    obtain ⟨cn2, f2_101, rfl, rfl, u_102, u_103, u_104⟩ := hu
                    refine v_is (wn := [(xv, aZ g 72000 fg), (h0, ob 8 [.ref xa, .ref xb, .ref xc, .ref xd, .ref xe, .ref xf, .ref xg, .int (iI vc), .int (iI vk), .int (iI vw), .ref xm, .ref xv, .int (iI vg), .ref xw, .int (iI cn2), .int (iI vi), .ref xq, .int (iI ve), .int (iI vf), .int (iI vu), .int (iI vl), .ref xr, .ref xh, .ref xo, .ref xp, .int (iI vr), .int (iI va), .int (iI vt), .int (iI vm), .int (iI vd), .int (iI vx)]), (xw, aI g 72000 f2_101), (xa, aI g 64 (lfT mW 64)), (xb, aI g 64 (lfT mB 64)), (xc, aI g 27 (lfT mWM 27)), (xd, aI g 27 (lfT mBM 27)), (xe, aI g 13 (lfT mBO 13))]) (cn := 0) (sn := 0) (sn2 := []) rfl rfl rfl rfl ?_
                    have hE3 := u_104
                    have hbt := bgt_hor (k1 := cn1 - cm) (k2 := cn2 - cn1) (bk := bk) (a1 := a1) (w := vw) (a0 := a0) (by omega) hrs (by omega) ha2 (by omega) (by omega) (by omega)
                    have hPn := PreT_hor hi5_4 (by omega) hmA hmB hea hea2 hq1 hq2 (by omega) (by omega) rfl (z1 := (a1 - 0)) (by rw [← rs0_of hrs]) rfl (z2 := vw - a1) rfl (g2 := 1) (by omega)
                    rw [List.append_assoc, List.append_assoc, List.append_assoc] at hE3
                    rw [List.append_assoc, List.append_assoc] at hPn
                    have hEn := hE3
                    refine v_iload fx 0 dX8_twoDimensions_192 rfl rfl ?_
                    refine v_istore_n fx [(3, .int (iI vw)), (8, .int (iI vw)), (7, .int (iI (a1 - q1))), (6, .int (iI q1)), (5, .int (iI a1)), (0, .ref h0), (1, .int (iI ba)), (2, .int (iI ab)), (4, .int (iI bk))] dX8_twoDimensions_194 (by decide) rfl rfl ?_
                    refine v_goto fx 5 dX8_twoDimensions_195 (by decide) ?_
                    refine v_ws [1, 2, 0, 3, 4, 5, 6, 7] [(h0, ob 8 [.ref xa, .ref xb, .ref xc, .ref xd, .ref xe, .ref xf, .ref xg, .int (iI vc), .int (iI vk), .int (iI vw), .ref xm, .ref xv, .int (iI vg), .ref xw, .int (iI cn2), .int (iI vi), .ref xq, .int (iI ve), .int (iI vf), .int (iI vu), .int (iI vl), .ref xr, .ref xh, .ref xo, .ref xp, .int (iI vr), .int (iI va), .int (iI vt), .int (iI vm), .int (iI vd), .int (iI vx)]), (xw, aI g 72000 f2_101), (xv, aZ g 72000 fg), (xa, aI g 64 (lfT mW 64)), (xb, aI g 64 (lfT mB 64)), (xc, aI g 27 (lfT mWM 27)), (xd, aI g 27 (lfT mBM 27)), (xe, aI g 13 (lfT mBO 13))] rfl rfl ?_
                    refine v_lv [5, 6, 7, 0, 8] [(0, .ref h0), (1, .int (iI ba)), (2, .int (iI ab)), (3, .int (iI vw)), (4, .int (iI bk))] rfl ?_
                    exact ihL5 vw bk cn2 f2_101 (P ++ (codeB 9 ++ ((runS (a1 - 0) (bk)) ++ runS (vw - a1) (1)))) (by omega) (by omega) (by omega) (by exact hEn) (by first | exact hPn | exact hPn0 _ (by omega)) (by omega)
              ·
                refine v_aload_n fx 3 dX8_twoDimensions_129 rfl rfl ?_
                refine v_aload_n fx 3 dX8_twoDimensions_130 rfl rfl ?_
                refine v_get fx 6 11 inX8 k1007 dX8_twoDimensions_131 rfl rfl (by decide) rfl rfl rfl ?_
                refine v_iload_n fx 4 dX8_twoDimensions_134 rfl rfl ?_
                refine v_iload fx 2 dX8_twoDimensions_135 rfl rfl ?_
                refine v_callV (As := [.ref xv, .int (iI ba), .int (iI a1)]) (rest := []) fx [6, 7] [0, 1, 2, 3, 4, 5] [(h0, ob 8 [.ref xa, .ref xb, .ref xc, .ref xd, .ref xe, .ref xf, .ref xg, .int (iI vc), .int (iI vk), .int (iI vw), .ref xm, .ref xv, .int (iI vg), .ref xw, .int (iI b1), .int (iI vi), .ref xq, .int (iI ve), .int (iI vf), .int (iI vu), .int (iI vl), .ref xr, .ref xh, .ref xo, .ref xp, .int (iI vr), .int (iI va), .int (iI vt), .int (iI vm), .int (iI vd), .int (iI vx)]), (xv, aZ g 72000 fg)] [(xw, aI g 72000 f1), (xa, aI g 64 (lfT mW 64)), (xb, aI g 64 (lfT mB 64)), (xc, aI g 27 (lfT mWM 27)), (xd, aI g 27 (lfT mBM 27)), (xe, aI g 13 (lfT mBO 13))] 3 0 (c_X8_change_e l g h0 xa xb xc xd xe xf xg xm xv xw xq xr xh xo xp vc vk vw vg b1 vi ve vf vu vl vr va vt vm vd vx xv 72000 fg ba a1 A ln (k + 1) (by first | omega | decide | assumption) (by first | omega | decide | assumption) (by first | omega | decide | assumption) (by exact hp5) (by rw [hea]; exact SmpA_next hp5 (by omega) hmA.1 (by omega))) dX8_twoDimensions_137 k1130 k1132 k28 k57 k1133 ykX8_change rfl rfl rfl rfl rfl rfl rfl rfl (nl rfl) ⟨nl rfl, nl rfl⟩ ⟨(nl rfl), (nl rfl)⟩ rfl (fun v9 w9 hu => ?_)
                obtain ⟨a2, rfl, rfl, u_105, u_106⟩ := hu
                refine v_is (wn := [(xw, aI g 72000 f1), (xa, aI g 64 (lfT mW 64)), (xb, aI g 64 (lfT mB 64)), (xc, aI g 27 (lfT mWM 27)), (xd, aI g 27 (lfT mBM 27)), (xe, aI g 13 (lfT mBO 13)), (h0, ob 8 [.ref xa, .ref xb, .ref xc, .ref xd, .ref xe, .ref xf, .ref xg, .int (iI vc), .int (iI vk), .int (iI vw), .ref xm, .ref xv, .int (iI vg), .ref xw, .int (iI b1), .int (iI vi), .ref xq, .int (iI ve), .int (iI vf), .int (iI vu), .int (iI vl), .ref xr, .ref xh, .ref xo, .ref xp, .int (iI vr), .int (iI va), .int (iI vt), .int (iI vm), .int (iI vd), .int (iI vx)]), (xv, aZ g 72000 fg)]) (cn := 0) (sn := 0) (sn2 := [.int (iI a2)]) rfl rfl rfl rfl ?_
                have ha2 : (a1 < a2 ∧ a2 ≤ vw) ∨ (a1 = vw ∧ a2 = vw) := Or.inl u_105
                have hea2 := u_106
                refine v_goto fx 147 dX8_twoDimensions_140 (by decide) ?_
                refine v_istore fx [(8, .int (iI a2)), (7, .int (iI (a1 - q1))), (6, .int (iI q1)), (5, .int (iI a1)), (0, .ref h0), (1, .int (iI ba)), (2, .int (iI ab)), (3, .int (iI a0)), (4, .int (iI bk))] dX8_twoDimensions_147 (by decide) rfl rfl ?_
                refine v_aload_n fx 4 dX8_twoDimensions_149 rfl rfl ?_
                refine v_iconst fx dX8_twoDimensions_150 rfl ?_
                refine v_iconst fx dX8_twoDimensions_151 rfl ?_
                refine v_callV (As := [.int (iI 1), .int (iI 3)]) (rest := []) fx [6, 0] [1, 2, 3, 4, 5, 7] [(h0, ob 8 [.ref xa, .ref xb, .ref xc, .ref xd, .ref xe, .ref xf, .ref xg, .int (iI vc), .int (iI vk), .int (iI vw), .ref xm, .ref xv, .int (iI vg), .ref xw, .int (iI b1), .int (iI vi), .ref xq, .int (iI ve), .int (iI vf), .int (iI vu), .int (iI vl), .ref xr, .ref xh, .ref xo, .ref xp, .int (iI vr), .int (iI va), .int (iI vt), .int (iI vm), .int (iI vd), .int (iI vx)]), (xw, aI g 72000 f1)] [(xa, aI g 64 (lfT mW 64)), (xb, aI g 64 (lfT mB 64)), (xc, aI g 27 (lfT mWM 27)), (xd, aI g 27 (lfT mBM 27)), (xe, aI g 13 (lfT mBO 13)), (xv, aZ g 72000 fg)] 2 0 (c_X8_number_e l g h0 xa xb xc xd xe xf xg xm xv xw xq xr xh xo xp vc vk vw vg b1 vi ve vf vu vl vr va vt vm vd vx f1 1 3 (T ++ P) (by first | omega | decide | assumption) (by first | omega | decide | assumption) (by first | omega | decide | assumption) (by exact hi5_3)) dX8_twoDimensions_152 k1106 k1108 k22 k57 k1109 ykX8_number rfl rfl rfl rfl rfl rfl rfl rfl (nl rfl) ⟨nl rfl, nl rfl⟩ ⟨(nl rfl), (nl rfl)⟩ rfl (fun v9 w9 hu => ?_)
                obtain ⟨cm, f2_107, rfl, rfl, u_108, u_109⟩ := hu
                refine v_is (wn := [(xa, aI g 64 (lfT mW 64)), (xb, aI g 64 (lfT mB 64)), (xc, aI g 27 (lfT mWM 27)), (xd, aI g 27 (lfT mBM 27)), (xe, aI g 13 (lfT mBO 13)), (xv, aZ g 72000 fg), (h0, ob 8 [.ref xa, .ref xb, .ref xc, .ref xd, .ref xe, .ref xf, .ref xg, .int (iI vc), .int (iI vk), .int (iI vw), .ref xm, .ref xv, .int (iI vg), .ref xw, .int (iI cm), .int (iI vi), .ref xq, .int (iI ve), .int (iI vf), .int (iI vu), .int (iI vl), .ref xr, .ref xh, .ref xo, .ref xp, .int (iI vr), .int (iI va), .int (iI vt), .int (iI vm), .int (iI vd), .int (iI vx)]), (xw, aI g 72000 f2_107)]) (cn := 0) (sn := 0) (sn2 := []) rfl rfl rfl rfl ?_
                have hE1 := EncR_eq u_109 (show _ = (T ++ P) ++ codeB 9 by rw [cb_hor])
                refine v_aload_n fx 4 dX8_twoDimensions_155 rfl rfl ?_
                refine v_iload fx 3 dX8_twoDimensions_156 rfl rfl ?_
                refine v_iload_n fx 7 dX8_twoDimensions_158 rfl rfl ?_
                refine v_if_ge fx 166 dX8_twoDimensions_159 (by decide) rfl (by omega) (fun h_110 => ?_) (fun h_110 => ?_)
                ·
                  have hrs : (a0 < 0 ∧ a0 = 0) ∨ (0 ≤ a0 ∧ a0 = a0) := Or.inr ⟨h_110, rfl⟩
                  refine v_iload_n fx 7 dX8_twoDimensions_166 rfl rfl ?_
                  refine v_isub fx (a1 - a0) dX8_twoDimensions_167 (by rfl) rfl ?_
                  refine v_iload fx 8 dX8_twoDimensions_168 rfl rfl ?_
                  refine v_callV (As := [.int (iI (a1 - a0)), .int (iI bk)]) (rest := []) fx [6, 7, 0, 1, 2, 3, 4] [5] [(h0, ob 8 [.ref xa, .ref xb, .ref xc, .ref xd, .ref xe, .ref xf, .ref xg, .int (iI vc), .int (iI vk), .int (iI vw), .ref xm, .ref xv, .int (iI vg), .ref xw, .int (iI cm), .int (iI vi), .ref xq, .int (iI ve), .int (iI vf), .int (iI vu), .int (iI vl), .ref xr, .ref xh, .ref xo, .ref xp, .int (iI vr), .int (iI va), .int (iI vt), .int (iI vm), .int (iI vd), .int (iI vx)]), (xw, aI g 72000 f2_107), (xa, aI g 64 (lfT mW 64)), (xb, aI g 64 (lfT mB 64)), (xc, aI g 27 (lfT mWM 27)), (xd, aI g 27 (lfT mBM 27)), (xe, aI g 13 (lfT mBO 13))] [(xv, aZ g 72000 fg)] 2 0 (c_X8_run_e l g h0 xa xb xc xd xe xf xg xm xv xw xq xr xh xo xp vc vk vw vg cm vi ve vf vu vl vr va vt vm vd vx f2_107 (a1 - a0) bk ((T ++ P) ++ codeB 9) (by first | omega | decide | assumption) (by first | omega | decide | assumption) (by first | omega | decide | assumption) (by first | omega | decide | assumption) (by exact hE1)) dX8_twoDimensions_170 k1118 k1120 k25 k57 k1121 ykX8_run rfl rfl rfl rfl rfl rfl rfl rfl (nl rfl) ⟨nl rfl, nl rfl⟩ ⟨(nl rfl), (nl rfl)⟩ rfl (fun v9 w9 hu => ?_)
                  obtain ⟨cn1, f2_111, rfl, rfl, u_112, u_113, u_114⟩ := hu
                  refine v_is (wn := [(xv, aZ g 72000 fg), (h0, ob 8 [.ref xa, .ref xb, .ref xc, .ref xd, .ref xe, .ref xf, .ref xg, .int (iI vc), .int (iI vk), .int (iI vw), .ref xm, .ref xv, .int (iI vg), .ref xw, .int (iI cn1), .int (iI vi), .ref xq, .int (iI ve), .int (iI vf), .int (iI vu), .int (iI vl), .ref xr, .ref xh, .ref xo, .ref xp, .int (iI vr), .int (iI va), .int (iI vt), .int (iI vm), .int (iI vd), .int (iI vx)]), (xw, aI g 72000 f2_111), (xa, aI g 64 (lfT mW 64)), (xb, aI g 64 (lfT mB 64)), (xc, aI g 27 (lfT mWM 27)), (xd, aI g 27 (lfT mBM 27)), (xe, aI g 13 (lfT mBO 13))]) (cn := 0) (sn := 0) (sn2 := []) rfl rfl rfl rfl ?_
                  have hE2 := u_114
                  have hbr := bgt_run (k1 := cn1 - cm) (bk := bk) (w := vw) (a1 := a1) (a0 := a0) (by omega) hrs (by omega) (by omega) (by omega)
                  refine v_aload_n fx 4 dX8_twoDimensions_173 rfl rfl ?_
                  refine v_iload fx 0 dX8_twoDimensions_174 rfl rfl ?_
                  refine v_iload fx 3 dX8_twoDimensions_176 rfl rfl ?_
                  refine v_isub fx (a2 - a1) dX8_twoDimensions_178 (by rfl) rfl ?_
                  refine v_iload fx 8 dX8_twoDimensions_179 rfl rfl ?_
                  refine v_if_ne fx 188 dX8_twoDimensions_181 (by decide) rfl (by omega) (fun h_115 => ?_) (fun h_115 => ?_)
                  ·
                    refine v_iconst fx dX8_twoDimensions_188 rfl ?_
                    refine v_callV (As := [.int (iI (a2 - a1)), .int (iI 0)]) (rest := []) fx [1, 2, 3, 4, 5, 6, 7] [0] [(h0, ob 8 [.ref xa, .ref xb, .ref xc, .ref xd, .ref xe, .ref xf, .ref xg, .int (iI vc), .int (iI vk), .int (iI vw), .ref xm, .ref xv, .int (iI vg), .ref xw, .int (iI cn1), .int (iI vi), .ref xq, .int (iI ve), .int (iI vf), .int (iI vu), .int (iI vl), .ref xr, .ref xh, .ref xo, .ref xp, .int (iI vr), .int (iI va), .int (iI vt), .int (iI vm), .int (iI vd), .int (iI vx)]), (xw, aI g 72000 f2_111), (xa, aI g 64 (lfT mW 64)), (xb, aI g 64 (lfT mB 64)), (xc, aI g 27 (lfT mWM 27)), (xd, aI g 27 (lfT mBM 27)), (xe, aI g 13 (lfT mBO 13))] [(xv, aZ g 72000 fg)] 2 0 (c_X8_run_e l g h0 xa xb xc xd xe xf xg xm xv xw xq xr xh xo xp vc vk vw vg cn1 vi ve vf vu vl vr va vt vm vd vx f2_111 (a2 - a1) 0 (((T ++ P) ++ codeB 9) ++ runS (a1 - a0) (bk)) (by first | omega | decide | assumption) (by first | omega | decide | assumption) (by first | omega | decide | assumption) (by first | omega | decide | assumption) (by exact hE2)) dX8_twoDimensions_189 k1118 k1120 k25 k57 k1121 ykX8_run rfl rfl rfl rfl rfl rfl rfl rfl (nl rfl) ⟨nl rfl, nl rfl⟩ ⟨(nl rfl), (nl rfl)⟩ rfl (fun v9 w9 hu => ?_)
                    obtain ⟨cn2, f2_116, rfl, rfl, u_117, u_118, u_119⟩ := hu
                    refine v_is (wn := [(xv, aZ g 72000 fg), (h0, ob 8 [.ref xa, .ref xb, .ref xc, .ref xd, .ref xe, .ref xf, .ref xg, .int (iI vc), .int (iI vk), .int (iI vw), .ref xm, .ref xv, .int (iI vg), .ref xw, .int (iI cn2), .int (iI vi), .ref xq, .int (iI ve), .int (iI vf), .int (iI vu), .int (iI vl), .ref xr, .ref xh, .ref xo, .ref xp, .int (iI vr), .int (iI va), .int (iI vt), .int (iI vm), .int (iI vd), .int (iI vx)]), (xw, aI g 72000 f2_116), (xa, aI g 64 (lfT mW 64)), (xb, aI g 64 (lfT mB 64)), (xc, aI g 27 (lfT mWM 27)), (xd, aI g 27 (lfT mBM 27)), (xe, aI g 13 (lfT mBO 13))]) (cn := 0) (sn := 0) (sn2 := []) rfl rfl rfl rfl ?_
                    have hE3 := u_119
                    have hbt := bgt_hor (k1 := cn1 - cm) (k2 := cn2 - cn1) (bk := bk) (a1 := a1) (w := vw) (a0 := a0) (by omega) hrs (by omega) ha2 (by omega) (by omega) (by omega)
                    have hPn := PreT_hor hi5_4 (by omega) hmA hmB hea hea2 hq1 hq2 (by omega) (by omega) rfl (z1 := (a1 - a0)) (by rw [← rs0_of hrs]) rfl (z2 := a2 - a1) rfl (g2 := 0) (by omega)
                    rw [List.append_assoc, List.append_assoc, List.append_assoc] at hE3
                    rw [List.append_assoc, List.append_assoc] at hPn
                    have hEn := hE3
                    refine v_iload fx 0 dX8_twoDimensions_192 rfl rfl ?_
                    refine v_istore_n fx [(3, .int (iI a2)), (8, .int (iI a2)), (7, .int (iI (a1 - q1))), (6, .int (iI q1)), (5, .int (iI a1)), (0, .ref h0), (1, .int (iI ba)), (2, .int (iI ab)), (4, .int (iI bk))] dX8_twoDimensions_194 (by decide) rfl rfl ?_
                    refine v_goto fx 5 dX8_twoDimensions_195 (by decide) ?_
                    refine v_ws [1, 2, 0, 3, 4, 5, 6, 7] [(h0, ob 8 [.ref xa, .ref xb, .ref xc, .ref xd, .ref xe, .ref xf, .ref xg, .int (iI vc), .int (iI vk), .int (iI vw), .ref xm, .ref xv, .int (iI vg), .ref xw, .int (iI cn2), .int (iI vi), .ref xq, .int (iI ve), .int (iI vf), .int (iI vu), .int (iI vl), .ref xr, .ref xh, .ref xo, .ref xp, .int (iI vr), .int (iI va), .int (iI vt), .int (iI vm), .int (iI vd), .int (iI vx)]), (xw, aI g 72000 f2_116), (xv, aZ g 72000 fg), (xa, aI g 64 (lfT mW 64)), (xb, aI g 64 (lfT mB 64)), (xc, aI g 27 (lfT mWM 27)), (xd, aI g 27 (lfT mBM 27)), (xe, aI g 13 (lfT mBO 13))] rfl rfl ?_
                    refine v_lv [5, 6, 7, 0, 8] [(0, .ref h0), (1, .int (iI ba)), (2, .int (iI ab)), (3, .int (iI a2)), (4, .int (iI bk))] rfl ?_
                    exact ihL5 a2 bk cn2 f2_116 (P ++ (codeB 9 ++ ((runS (a1 - a0) (bk)) ++ runS (a2 - a1) (0)))) (by omega) (by omega) (by omega) (by exact hEn) (by first | exact hPn | exact hPn0 _ (by omega)) (by omega)
                  ·
                    refine v_iconst fx dX8_twoDimensions_184 rfl ?_
                    refine v_goto fx 189 dX8_twoDimensions_185 (by decide) ?_
                    refine v_callV (As := [.int (iI (a2 - a1)), .int (iI 1)]) (rest := []) fx [1, 2, 3, 4, 5, 6, 7] [0] [(h0, ob 8 [.ref xa, .ref xb, .ref xc, .ref xd, .ref xe, .ref xf, .ref xg, .int (iI vc), .int (iI vk), .int (iI vw), .ref xm, .ref xv, .int (iI vg), .ref xw, .int (iI cn1), .int (iI vi), .ref xq, .int (iI ve), .int (iI vf), .int (iI vu), .int (iI vl), .ref xr, .ref xh, .ref xo, .ref xp, .int (iI vr), .int (iI va), .int (iI vt), .int (iI vm), .int (iI vd), .int (iI vx)]), (xw, aI g 72000 f2_111), (xa, aI g 64 (lfT mW 64)), (xb, aI g 64 (lfT mB 64)), (xc, aI g 27 (lfT mWM 27)), (xd, aI g 27 (lfT mBM 27)), (xe, aI g 13 (lfT mBO 13))] [(xv, aZ g 72000 fg)] 2 0 (c_X8_run_e l g h0 xa xb xc xd xe xf xg xm xv xw xq xr xh xo xp vc vk vw vg cn1 vi ve vf vu vl vr va vt vm vd vx f2_111 (a2 - a1) 1 (((T ++ P) ++ codeB 9) ++ runS (a1 - a0) (bk)) (by first | omega | decide | assumption) (by first | omega | decide | assumption) (by first | omega | decide | assumption) (by first | omega | decide | assumption) (by exact hE2)) dX8_twoDimensions_189 k1118 k1120 k25 k57 k1121 ykX8_run rfl rfl rfl rfl rfl rfl rfl rfl (nl rfl) ⟨nl rfl, nl rfl⟩ ⟨(nl rfl), (nl rfl)⟩ rfl (fun v9 w9 hu => ?_)
                    obtain ⟨cn2, f2_120, rfl, rfl, u_121, u_122, u_123⟩ := hu
                    refine v_is (wn := [(xv, aZ g 72000 fg), (h0, ob 8 [.ref xa, .ref xb, .ref xc, .ref xd, .ref xe, .ref xf, .ref xg, .int (iI vc), .int (iI vk), .int (iI vw), .ref xm, .ref xv, .int (iI vg), .ref xw, .int (iI cn2), .int (iI vi), .ref xq, .int (iI ve), .int (iI vf), .int (iI vu), .int (iI vl), .ref xr, .ref xh, .ref xo, .ref xp, .int (iI vr), .int (iI va), .int (iI vt), .int (iI vm), .int (iI vd), .int (iI vx)]), (xw, aI g 72000 f2_120), (xa, aI g 64 (lfT mW 64)), (xb, aI g 64 (lfT mB 64)), (xc, aI g 27 (lfT mWM 27)), (xd, aI g 27 (lfT mBM 27)), (xe, aI g 13 (lfT mBO 13))]) (cn := 0) (sn := 0) (sn2 := []) rfl rfl rfl rfl ?_
                    have hE3 := u_123
                    have hbt := bgt_hor (k1 := cn1 - cm) (k2 := cn2 - cn1) (bk := bk) (a1 := a1) (w := vw) (a0 := a0) (by omega) hrs (by omega) ha2 (by omega) (by omega) (by omega)
                    have hPn := PreT_hor hi5_4 (by omega) hmA hmB hea hea2 hq1 hq2 (by omega) (by omega) rfl (z1 := (a1 - a0)) (by rw [← rs0_of hrs]) rfl (z2 := a2 - a1) rfl (g2 := 1) (by omega)
                    rw [List.append_assoc, List.append_assoc, List.append_assoc] at hE3
                    rw [List.append_assoc, List.append_assoc] at hPn
                    have hEn := hE3
                    refine v_iload fx 0 dX8_twoDimensions_192 rfl rfl ?_
                    refine v_istore_n fx [(3, .int (iI a2)), (8, .int (iI a2)), (7, .int (iI (a1 - q1))), (6, .int (iI q1)), (5, .int (iI a1)), (0, .ref h0), (1, .int (iI ba)), (2, .int (iI ab)), (4, .int (iI bk))] dX8_twoDimensions_194 (by decide) rfl rfl ?_
                    refine v_goto fx 5 dX8_twoDimensions_195 (by decide) ?_
                    refine v_ws [1, 2, 0, 3, 4, 5, 6, 7] [(h0, ob 8 [.ref xa, .ref xb, .ref xc, .ref xd, .ref xe, .ref xf, .ref xg, .int (iI vc), .int (iI vk), .int (iI vw), .ref xm, .ref xv, .int (iI vg), .ref xw, .int (iI cn2), .int (iI vi), .ref xq, .int (iI ve), .int (iI vf), .int (iI vu), .int (iI vl), .ref xr, .ref xh, .ref xo, .ref xp, .int (iI vr), .int (iI va), .int (iI vt), .int (iI vm), .int (iI vd), .int (iI vx)]), (xw, aI g 72000 f2_120), (xv, aZ g 72000 fg), (xa, aI g 64 (lfT mW 64)), (xb, aI g 64 (lfT mB 64)), (xc, aI g 27 (lfT mWM 27)), (xd, aI g 27 (lfT mBM 27)), (xe, aI g 13 (lfT mBO 13))] rfl rfl ?_
                    refine v_lv [5, 6, 7, 0, 8] [(0, .ref h0), (1, .int (iI ba)), (2, .int (iI ab)), (3, .int (iI a2)), (4, .int (iI bk))] rfl ?_
                    exact ihL5 a2 bk cn2 f2_120 (P ++ (codeB 9 ++ ((runS (a1 - a0) (bk)) ++ runS (a2 - a1) (1)))) (by omega) (by omega) (by omega) (by exact hEn) (by first | exact hPn | exact hPn0 _ (by omega)) (by omega)
                ·
                  have hrs : (a0 < 0 ∧ (0 : Int) = 0) ∨ (0 ≤ a0 ∧ (0 : Int) = a0) := Or.inl ⟨h_110, rfl⟩
                  refine v_iconst fx dX8_twoDimensions_162 rfl ?_
                  refine v_goto fx 167 dX8_twoDimensions_163 (by decide) ?_
                  refine v_isub fx (a1 - 0) dX8_twoDimensions_167 (by rfl) rfl ?_
                  refine v_iload fx 8 dX8_twoDimensions_168 rfl rfl ?_
                  refine v_callV (As := [.int (iI (a1 - 0)), .int (iI bk)]) (rest := []) fx [6, 7, 0, 1, 2, 3, 4] [5] [(h0, ob 8 [.ref xa, .ref xb, .ref xc, .ref xd, .ref xe, .ref xf, .ref xg, .int (iI vc), .int (iI vk), .int (iI vw), .ref xm, .ref xv, .int (iI vg), .ref xw, .int (iI cm), .int (iI vi), .ref xq, .int (iI ve), .int (iI vf), .int (iI vu), .int (iI vl), .ref xr, .ref xh, .ref xo, .ref xp, .int (iI vr), .int (iI va), .int (iI vt), .int (iI vm), .int (iI vd), .int (iI vx)]), (xw, aI g 72000 f2_107), (xa, aI g 64 (lfT mW 64)), (xb, aI g 64 (lfT mB 64)), (xc, aI g 27 (lfT mWM 27)), (xd, aI g 27 (lfT mBM 27)), (xe, aI g 13 (lfT mBO 13))] [(xv, aZ g 72000 fg)] 2 0 (c_X8_run_e l g h0 xa xb xc xd xe xf xg xm xv xw xq xr xh xo xp vc vk vw vg cm vi ve vf vu vl vr va vt vm vd vx f2_107 (a1 - 0) bk ((T ++ P) ++ codeB 9) (by first | omega | decide | assumption) (by first | omega | decide | assumption) (by first | omega | decide | assumption) (by first | omega | decide | assumption) (by exact hE1)) dX8_twoDimensions_170 k1118 k1120 k25 k57 k1121 ykX8_run rfl rfl rfl rfl rfl rfl rfl rfl (nl rfl) ⟨nl rfl, nl rfl⟩ ⟨(nl rfl), (nl rfl)⟩ rfl (fun v9 w9 hu => ?_)
                  obtain ⟨cn1, f2_124, rfl, rfl, u_125, u_126, u_127⟩ := hu
                  refine v_is (wn := [(xv, aZ g 72000 fg), (h0, ob 8 [.ref xa, .ref xb, .ref xc, .ref xd, .ref xe, .ref xf, .ref xg, .int (iI vc), .int (iI vk), .int (iI vw), .ref xm, .ref xv, .int (iI vg), .ref xw, .int (iI cn1), .int (iI vi), .ref xq, .int (iI ve), .int (iI vf), .int (iI vu), .int (iI vl), .ref xr, .ref xh, .ref xo, .ref xp, .int (iI vr), .int (iI va), .int (iI vt), .int (iI vm), .int (iI vd), .int (iI vx)]), (xw, aI g 72000 f2_124), (xa, aI g 64 (lfT mW 64)), (xb, aI g 64 (lfT mB 64)), (xc, aI g 27 (lfT mWM 27)), (xd, aI g 27 (lfT mBM 27)), (xe, aI g 13 (lfT mBO 13))]) (cn := 0) (sn := 0) (sn2 := []) rfl rfl rfl rfl ?_
                  have hE2 := u_127
                  have hbr := bgt_run (k1 := cn1 - cm) (bk := bk) (w := vw) (a1 := a1) (a0 := a0) (by omega) hrs (by omega) (by omega) (by omega)
                  refine v_aload_n fx 4 dX8_twoDimensions_173 rfl rfl ?_
                  refine v_iload fx 0 dX8_twoDimensions_174 rfl rfl ?_
                  refine v_iload fx 3 dX8_twoDimensions_176 rfl rfl ?_
                  refine v_isub fx (a2 - a1) dX8_twoDimensions_178 (by rfl) rfl ?_
                  refine v_iload fx 8 dX8_twoDimensions_179 rfl rfl ?_
                  refine v_if_ne fx 188 dX8_twoDimensions_181 (by decide) rfl (by omega) (fun h_128 => ?_) (fun h_128 => ?_)
                  ·
                    refine v_iconst fx dX8_twoDimensions_188 rfl ?_
                    refine v_callV (As := [.int (iI (a2 - a1)), .int (iI 0)]) (rest := []) fx [1, 2, 3, 4, 5, 6, 7] [0] [(h0, ob 8 [.ref xa, .ref xb, .ref xc, .ref xd, .ref xe, .ref xf, .ref xg, .int (iI vc), .int (iI vk), .int (iI vw), .ref xm, .ref xv, .int (iI vg), .ref xw, .int (iI cn1), .int (iI vi), .ref xq, .int (iI ve), .int (iI vf), .int (iI vu), .int (iI vl), .ref xr, .ref xh, .ref xo, .ref xp, .int (iI vr), .int (iI va), .int (iI vt), .int (iI vm), .int (iI vd), .int (iI vx)]), (xw, aI g 72000 f2_124), (xa, aI g 64 (lfT mW 64)), (xb, aI g 64 (lfT mB 64)), (xc, aI g 27 (lfT mWM 27)), (xd, aI g 27 (lfT mBM 27)), (xe, aI g 13 (lfT mBO 13))] [(xv, aZ g 72000 fg)] 2 0 (c_X8_run_e l g h0 xa xb xc xd xe xf xg xm xv xw xq xr xh xo xp vc vk vw vg cn1 vi ve vf vu vl vr va vt vm vd vx f2_124 (a2 - a1) 0 (((T ++ P) ++ codeB 9) ++ runS (a1 - 0) (bk)) (by first | omega | decide | assumption) (by first | omega | decide | assumption) (by first | omega | decide | assumption) (by first | omega | decide | assumption) (by exact hE2)) dX8_twoDimensions_189 k1118 k1120 k25 k57 k1121 ykX8_run rfl rfl rfl rfl rfl rfl rfl rfl (nl rfl) ⟨nl rfl, nl rfl⟩ ⟨(nl rfl), (nl rfl)⟩ rfl (fun v9 w9 hu => ?_)
                    obtain ⟨cn2, f2_129, rfl, rfl, u_130, u_131, u_132⟩ := hu
                    refine v_is (wn := [(xv, aZ g 72000 fg), (h0, ob 8 [.ref xa, .ref xb, .ref xc, .ref xd, .ref xe, .ref xf, .ref xg, .int (iI vc), .int (iI vk), .int (iI vw), .ref xm, .ref xv, .int (iI vg), .ref xw, .int (iI cn2), .int (iI vi), .ref xq, .int (iI ve), .int (iI vf), .int (iI vu), .int (iI vl), .ref xr, .ref xh, .ref xo, .ref xp, .int (iI vr), .int (iI va), .int (iI vt), .int (iI vm), .int (iI vd), .int (iI vx)]), (xw, aI g 72000 f2_129), (xa, aI g 64 (lfT mW 64)), (xb, aI g 64 (lfT mB 64)), (xc, aI g 27 (lfT mWM 27)), (xd, aI g 27 (lfT mBM 27)), (xe, aI g 13 (lfT mBO 13))]) (cn := 0) (sn := 0) (sn2 := []) rfl rfl rfl rfl ?_
                    have hE3 := u_132
                    have hbt := bgt_hor (k1 := cn1 - cm) (k2 := cn2 - cn1) (bk := bk) (a1 := a1) (w := vw) (a0 := a0) (by omega) hrs (by omega) ha2 (by omega) (by omega) (by omega)
                    have hPn := PreT_hor hi5_4 (by omega) hmA hmB hea hea2 hq1 hq2 (by omega) (by omega) rfl (z1 := (a1 - 0)) (by rw [← rs0_of hrs]) rfl (z2 := a2 - a1) rfl (g2 := 0) (by omega)
                    rw [List.append_assoc, List.append_assoc, List.append_assoc] at hE3
                    rw [List.append_assoc, List.append_assoc] at hPn
                    have hEn := hE3
                    refine v_iload fx 0 dX8_twoDimensions_192 rfl rfl ?_
                    refine v_istore_n fx [(3, .int (iI a2)), (8, .int (iI a2)), (7, .int (iI (a1 - q1))), (6, .int (iI q1)), (5, .int (iI a1)), (0, .ref h0), (1, .int (iI ba)), (2, .int (iI ab)), (4, .int (iI bk))] dX8_twoDimensions_194 (by decide) rfl rfl ?_
                    refine v_goto fx 5 dX8_twoDimensions_195 (by decide) ?_
                    refine v_ws [1, 2, 0, 3, 4, 5, 6, 7] [(h0, ob 8 [.ref xa, .ref xb, .ref xc, .ref xd, .ref xe, .ref xf, .ref xg, .int (iI vc), .int (iI vk), .int (iI vw), .ref xm, .ref xv, .int (iI vg), .ref xw, .int (iI cn2), .int (iI vi), .ref xq, .int (iI ve), .int (iI vf), .int (iI vu), .int (iI vl), .ref xr, .ref xh, .ref xo, .ref xp, .int (iI vr), .int (iI va), .int (iI vt), .int (iI vm), .int (iI vd), .int (iI vx)]), (xw, aI g 72000 f2_129), (xv, aZ g 72000 fg), (xa, aI g 64 (lfT mW 64)), (xb, aI g 64 (lfT mB 64)), (xc, aI g 27 (lfT mWM 27)), (xd, aI g 27 (lfT mBM 27)), (xe, aI g 13 (lfT mBO 13))] rfl rfl ?_
                    refine v_lv [5, 6, 7, 0, 8] [(0, .ref h0), (1, .int (iI ba)), (2, .int (iI ab)), (3, .int (iI a2)), (4, .int (iI bk))] rfl ?_
                    exact ihL5 a2 bk cn2 f2_129 (P ++ (codeB 9 ++ ((runS (a1 - 0) (bk)) ++ runS (a2 - a1) (0)))) (by omega) (by omega) (by omega) (by exact hEn) (by first | exact hPn | exact hPn0 _ (by omega)) (by omega)
                  ·
                    refine v_iconst fx dX8_twoDimensions_184 rfl ?_
                    refine v_goto fx 189 dX8_twoDimensions_185 (by decide) ?_
                    refine v_callV (As := [.int (iI (a2 - a1)), .int (iI 1)]) (rest := []) fx [1, 2, 3, 4, 5, 6, 7] [0] [(h0, ob 8 [.ref xa, .ref xb, .ref xc, .ref xd, .ref xe, .ref xf, .ref xg, .int (iI vc), .int (iI vk), .int (iI vw), .ref xm, .ref xv, .int (iI vg), .ref xw, .int (iI cn1), .int (iI vi), .ref xq, .int (iI ve), .int (iI vf), .int (iI vu), .int (iI vl), .ref xr, .ref xh, .ref xo, .ref xp, .int (iI vr), .int (iI va), .int (iI vt), .int (iI vm), .int (iI vd), .int (iI vx)]), (xw, aI g 72000 f2_124), (xa, aI g 64 (lfT mW 64)), (xb, aI g 64 (lfT mB 64)), (xc, aI g 27 (lfT mWM 27)), (xd, aI g 27 (lfT mBM 27)), (xe, aI g 13 (lfT mBO 13))] [(xv, aZ g 72000 fg)] 2 0 (c_X8_run_e l g h0 xa xb xc xd xe xf xg xm xv xw xq xr xh xo xp vc vk vw vg cn1 vi ve vf vu vl vr va vt vm vd vx f2_124 (a2 - a1) 1 (((T ++ P) ++ codeB 9) ++ runS (a1 - 0) (bk)) (by first | omega | decide | assumption) (by first | omega | decide | assumption) (by first | omega | decide | assumption) (by first | omega | decide | assumption) (by exact hE2)) dX8_twoDimensions_189 k1118 k1120 k25 k57 k1121 ykX8_run rfl rfl rfl rfl rfl rfl rfl rfl (nl rfl) ⟨nl rfl, nl rfl⟩ ⟨(nl rfl), (nl rfl)⟩ rfl (fun v9 w9 hu => ?_)
                    obtain ⟨cn2, f2_133, rfl, rfl, u_134, u_135, u_136⟩ := hu
                    refine v_is (wn := [(xv, aZ g 72000 fg), (h0, ob 8 [.ref xa, .ref xb, .ref xc, .ref xd, .ref xe, .ref xf, .ref xg, .int (iI vc), .int (iI vk), .int (iI vw), .ref xm, .ref xv, .int (iI vg), .ref xw, .int (iI cn2), .int (iI vi), .ref xq, .int (iI ve), .int (iI vf), .int (iI vu), .int (iI vl), .ref xr, .ref xh, .ref xo, .ref xp, .int (iI vr), .int (iI va), .int (iI vt), .int (iI vm), .int (iI vd), .int (iI vx)]), (xw, aI g 72000 f2_133), (xa, aI g 64 (lfT mW 64)), (xb, aI g 64 (lfT mB 64)), (xc, aI g 27 (lfT mWM 27)), (xd, aI g 27 (lfT mBM 27)), (xe, aI g 13 (lfT mBO 13))]) (cn := 0) (sn := 0) (sn2 := []) rfl rfl rfl rfl ?_
                    have hE3 := u_136
                    have hbt := bgt_hor (k1 := cn1 - cm) (k2 := cn2 - cn1) (bk := bk) (a1 := a1) (w := vw) (a0 := a0) (by omega) hrs (by omega) ha2 (by omega) (by omega) (by omega)
                    have hPn := PreT_hor hi5_4 (by omega) hmA hmB hea hea2 hq1 hq2 (by omega) (by omega) rfl (z1 := (a1 - 0)) (by rw [← rs0_of hrs]) rfl (z2 := a2 - a1) rfl (g2 := 1) (by omega)
                    rw [List.append_assoc, List.append_assoc, List.append_assoc] at hE3
                    rw [List.append_assoc, List.append_assoc] at hPn
                    have hEn := hE3
                    refine v_iload fx 0 dX8_twoDimensions_192 rfl rfl ?_
                    refine v_istore_n fx [(3, .int (iI a2)), (8, .int (iI a2)), (7, .int (iI (a1 - q1))), (6, .int (iI q1)), (5, .int (iI a1)), (0, .ref h0), (1, .int (iI ba)), (2, .int (iI ab)), (4, .int (iI bk))] dX8_twoDimensions_194 (by decide) rfl rfl ?_
                    refine v_goto fx 5 dX8_twoDimensions_195 (by decide) ?_
                    refine v_ws [1, 2, 0, 3, 4, 5, 6, 7] [(h0, ob 8 [.ref xa, .ref xb, .ref xc, .ref xd, .ref xe, .ref xf, .ref xg, .int (iI vc), .int (iI vk), .int (iI vw), .ref xm, .ref xv, .int (iI vg), .ref xw, .int (iI cn2), .int (iI vi), .ref xq, .int (iI ve), .int (iI vf), .int (iI vu), .int (iI vl), .ref xr, .ref xh, .ref xo, .ref xp, .int (iI vr), .int (iI va), .int (iI vt), .int (iI vm), .int (iI vd), .int (iI vx)]), (xw, aI g 72000 f2_133), (xv, aZ g 72000 fg), (xa, aI g 64 (lfT mW 64)), (xb, aI g 64 (lfT mB 64)), (xc, aI g 27 (lfT mWM 27)), (xd, aI g 27 (lfT mBM 27)), (xe, aI g 13 (lfT mBO 13))] rfl rfl ?_
                    refine v_lv [5, 6, 7, 0, 8] [(0, .ref h0), (1, .int (iI ba)), (2, .int (iI ab)), (3, .int (iI a2)), (4, .int (iI bk))] rfl ?_
                    exact ihL5 a2 bk cn2 f2_133 (P ++ (codeB 9 ++ ((runS (a1 - 0) (bk)) ++ runS (a2 - a1) (1)))) (by omega) (by omega) (by omega) (by exact hEn) (by first | exact hPn | exact hPn0 _ (by omega)) (by omega)
            ·
              refine v_aload_n fx 3 dX8_twoDimensions_96 rfl rfl ?_
              refine v_iload fx 0 dX8_twoDimensions_97 rfl rfl ?_
              refine v_callV (As := [.int (iI (a1 - q1))]) (rest := []) fx [6, 0] [1, 2, 3, 4, 5, 7] [(h0, ob 8 [.ref xa, .ref xb, .ref xc, .ref xd, .ref xe, .ref xf, .ref xg, .int (iI vc), .int (iI vk), .int (iI vw), .ref xm, .ref xv, .int (iI vg), .ref xw, .int (iI b1), .int (iI vi), .ref xq, .int (iI ve), .int (iI vf), .int (iI vu), .int (iI vl), .ref xr, .ref xh, .ref xo, .ref xp, .int (iI vr), .int (iI va), .int (iI vt), .int (iI vm), .int (iI vd), .int (iI vx)]), (xw, aI g 72000 f1)] [(xa, aI g 64 (lfT mW 64)), (xb, aI g 64 (lfT mB 64)), (xc, aI g 27 (lfT mWM 27)), (xd, aI g 27 (lfT mBM 27)), (xe, aI g 13 (lfT mBO 13)), (xv, aZ g 72000 fg)] 1 0 (c_X8_vertical_e l g h0 xa xb xc xd xe xf xg xm xv xw xq xr xh xo xp vc vk vw vg b1 vi ve vf vu vl vr va vt vm vd vx f1 (a1 - q1) (T ++ P) (by first | omega | decide | assumption) (by first | omega | decide | assumption) (by first | omega | decide | assumption) (by exact hi5_3)) dX8_twoDimensions_99 k1142 k1144 k31 k57 k1145 ykX8_vertical rfl rfl rfl rfl rfl rfl rfl rfl (nl rfl) ⟨nl rfl, nl rfl⟩ ⟨(nl rfl), (nl rfl)⟩ rfl (fun v9 w9 hu => ?_)
              obtain ⟨b2_137, f2_138, rfl, rfl, u_139, u_140⟩ := hu
              refine v_is (wn := [(xa, aI g 64 (lfT mW 64)), (xb, aI g 64 (lfT mB 64)), (xc, aI g 27 (lfT mWM 27)), (xd, aI g 27 (lfT mBM 27)), (xe, aI g 13 (lfT mBO 13)), (xv, aZ g 72000 fg), (h0, ob 8 [.ref xa, .ref xb, .ref xc, .ref xd, .ref xe, .ref xf, .ref xg, .int (iI vc), .int (iI vk), .int (iI vw), .ref xm, .ref xv, .int (iI vg), .ref xw, .int (iI b2_137), .int (iI vi), .ref xq, .int (iI ve), .int (iI vf), .int (iI vu), .int (iI vl), .ref xr, .ref xh, .ref xo, .ref xp, .int (iI vr), .int (iI va), .int (iI vt), .int (iI vm), .int (iI vd), .int (iI vx)]), (xw, aI g 72000 f2_138)]) (cn := 0) (sn := 0) (sn2 := []) rfl rfl rfl rfl ?_
              have hEn := EncR_as u_140
              have hbt := bgt_to (a0 := a0) (b := a1) (w := vw) (by omega) (by omega) (by omega)
              have hPn0 : ∀ k2, k2 = 1 - bk → PreT vw A B (P ++ codeB (vco (a1 - q1))) a1 k2 := fun k2 hk2 => PreT_vert hi5_4 (by omega) hmA hmB hea hq1 hq2 (by omega) (by omega) rfl hk2
              refine v_iload fx 2 dX8_twoDimensions_102 rfl rfl ?_
              refine v_istore_n fx [(3, .int (iI a1)), (7, .int (iI (a1 - q1))), (6, .int (iI q1)), (5, .int (iI a1)), (0, .ref h0), (1, .int (iI ba)), (2, .int (iI ab)), (4, .int (iI bk))] dX8_twoDimensions_104 (by decide) rfl rfl ?_
              refine v_iload fx 7 dX8_twoDimensions_105 rfl rfl ?_
              refine v_if_ne fx 114 dX8_twoDimensions_107 (by decide) rfl (by omega) (fun h_141 => ?_) (fun h_141 => ?_)
              ·
                refine v_iconst fx dX8_twoDimensions_114 rfl ?_
                refine v_istore fx [(4, .int (iI 0)), (3, .int (iI a1)), (7, .int (iI (a1 - q1))), (6, .int (iI q1)), (5, .int (iI a1)), (0, .ref h0), (1, .int (iI ba)), (2, .int (iI ab))] dX8_twoDimensions_115 (by decide) rfl rfl ?_
                refine v_goto fx 195 dX8_twoDimensions_117 (by decide) ?_
                refine v_goto fx 5 dX8_twoDimensions_195 (by decide) ?_
                refine v_ws [6, 7, 5, 0, 1, 2, 3, 4] [(h0, ob 8 [.ref xa, .ref xb, .ref xc, .ref xd, .ref xe, .ref xf, .ref xg, .int (iI vc), .int (iI vk), .int (iI vw), .ref xm, .ref xv, .int (iI vg), .ref xw, .int (iI b2_137), .int (iI vi), .ref xq, .int (iI ve), .int (iI vf), .int (iI vu), .int (iI vl), .ref xr, .ref xh, .ref xo, .ref xp, .int (iI vr), .int (iI va), .int (iI vt), .int (iI vm), .int (iI vd), .int (iI vx)]), (xw, aI g 72000 f2_138), (xv, aZ g 72000 fg), (xa, aI g 64 (lfT mW 64)), (xb, aI g 64 (lfT mB 64)), (xc, aI g 27 (lfT mWM 27)), (xd, aI g 27 (lfT mBM 27)), (xe, aI g 13 (lfT mBO 13))] rfl rfl ?_
                refine v_lv [5, 6, 7, 1, 0] [(0, .ref h0), (1, .int (iI ba)), (2, .int (iI ab)), (3, .int (iI a1)), (4, .int (iI 0))] rfl ?_
                exact ihL5 a1 0 b2_137 f2_138 (P ++ codeB (vco (a1 - q1))) (by omega) (by omega) (by omega) (by exact hEn) (by first | exact hPn | exact hPn0 _ (by omega)) (by omega)
              ·
                refine v_iconst fx dX8_twoDimensions_110 rfl ?_
                refine v_goto fx 115 dX8_twoDimensions_111 (by decide) ?_
                refine v_istore fx [(4, .int (iI 1)), (3, .int (iI a1)), (7, .int (iI (a1 - q1))), (6, .int (iI q1)), (5, .int (iI a1)), (0, .ref h0), (1, .int (iI ba)), (2, .int (iI ab))] dX8_twoDimensions_115 (by decide) rfl rfl ?_
                refine v_goto fx 195 dX8_twoDimensions_117 (by decide) ?_
                refine v_goto fx 5 dX8_twoDimensions_195 (by decide) ?_
                refine v_ws [6, 7, 5, 0, 1, 2, 3, 4] [(h0, ob 8 [.ref xa, .ref xb, .ref xc, .ref xd, .ref xe, .ref xf, .ref xg, .int (iI vc), .int (iI vk), .int (iI vw), .ref xm, .ref xv, .int (iI vg), .ref xw, .int (iI b2_137), .int (iI vi), .ref xq, .int (iI ve), .int (iI vf), .int (iI vu), .int (iI vl), .ref xr, .ref xh, .ref xo, .ref xp, .int (iI vr), .int (iI va), .int (iI vt), .int (iI vm), .int (iI vd), .int (iI vx)]), (xw, aI g 72000 f2_138), (xv, aZ g 72000 fg), (xa, aI g 64 (lfT mW 64)), (xb, aI g 64 (lfT mB 64)), (xc, aI g 27 (lfT mWM 27)), (xd, aI g 27 (lfT mBM 27)), (xe, aI g 13 (lfT mBO 13))] rfl rfl ?_
                refine v_lv [5, 6, 7, 1, 0] [(0, .ref h0), (1, .int (iI ba)), (2, .int (iI ab)), (3, .int (iI a1)), (4, .int (iI 1))] rfl ?_
                exact ihL5 a1 1 b2_137 f2_138 (P ++ codeB (vco (a1 - q1))) (by omega) (by omega) (by omega) (by exact hEn) (by first | exact hPn | exact hPn0 _ (by omega)) (by omega)
        ·
          refine v_aload_n fx 3 dX8_twoDimensions_62 rfl rfl ?_
          refine v_iconst fx dX8_twoDimensions_63 rfl ?_
          refine v_iconst fx dX8_twoDimensions_64 rfl ?_
          refine v_callV (As := [.int (iI 1), .int (iI 4)]) (rest := []) fx [6, 0] [1, 2, 3, 4, 5, 7] [(h0, ob 8 [.ref xa, .ref xb, .ref xc, .ref xd, .ref xe, .ref xf, .ref xg, .int (iI vc), .int (iI vk), .int (iI vw), .ref xm, .ref xv, .int (iI vg), .ref xw, .int (iI b1), .int (iI vi), .ref xq, .int (iI ve), .int (iI vf), .int (iI vu), .int (iI vl), .ref xr, .ref xh, .ref xo, .ref xp, .int (iI vr), .int (iI va), .int (iI vt), .int (iI vm), .int (iI vd), .int (iI vx)]), (xw, aI g 72000 f1)] [(xa, aI g 64 (lfT mW 64)), (xb, aI g 64 (lfT mB 64)), (xc, aI g 27 (lfT mWM 27)), (xd, aI g 27 (lfT mBM 27)), (xe, aI g 13 (lfT mBO 13)), (xv, aZ g 72000 fg)] 2 0 (c_X8_number_e l g h0 xa xb xc xd xe xf xg xm xv xw xq xr xh xo xp vc vk vw vg b1 vi ve vf vu vl vr va vt vm vd vx f1 1 4 (T ++ P) (by first | omega | decide | assumption) (by first | omega | decide | assumption) (by first | omega | decide | assumption) (by exact hi5_3)) dX8_twoDimensions_65 k1106 k1108 k22 k57 k1109 ykX8_number rfl rfl rfl rfl rfl rfl rfl rfl (nl rfl) ⟨nl rfl, nl rfl⟩ ⟨(nl rfl), (nl rfl)⟩ rfl (fun v9 w9 hu => ?_)
          obtain ⟨b2_142, f2_143, rfl, rfl, u_144, u_145⟩ := hu
          refine v_is (wn := [(xa, aI g 64 (lfT mW 64)), (xb, aI g 64 (lfT mB 64)), (xc, aI g 27 (lfT mWM 27)), (xd, aI g 27 (lfT mBM 27)), (xe, aI g 13 (lfT mBO 13)), (xv, aZ g 72000 fg), (h0, ob 8 [.ref xa, .ref xb, .ref xc, .ref xd, .ref xe, .ref xf, .ref xg, .int (iI vc), .int (iI vk), .int (iI vw), .ref xm, .ref xv, .int (iI vg), .ref xw, .int (iI b2_142), .int (iI vi), .ref xq, .int (iI ve), .int (iI vf), .int (iI vu), .int (iI vl), .ref xr, .ref xh, .ref xo, .ref xp, .int (iI vr), .int (iI va), .int (iI vt), .int (iI vm), .int (iI vd), .int (iI vx)]), (xw, aI g 72000 f2_143)]) (cn := 0) (sn := 0) (sn2 := []) rfl rfl rfl rfl ?_
          have hEn := EncR_as (EncR_eq u_145 (show _ = (T ++ P) ++ codeB 17 by rw [cb_pass]))
          refine v_aload_n fx 3 dX8_twoDimensions_68 rfl rfl ?_
          refine v_aload_n fx 3 dX8_twoDimensions_69 rfl rfl ?_
          refine v_get fx 6 11 inX8 k1007 dX8_twoDimensions_70 rfl rfl (by decide) rfl rfl rfl ?_
          refine v_iload_n fx 5 dX8_twoDimensions_73 rfl rfl ?_
          refine v_iload fx 1 dX8_twoDimensions_74 rfl rfl ?_
          refine v_callV (As := [.ref xv, .int (iI ab), .int (iI q1)]) (rest := []) fx [6, 5] [0, 1, 2, 3, 4, 7] [(h0, ob 8 [.ref xa, .ref xb, .ref xc, .ref xd, .ref xe, .ref xf, .ref xg, .int (iI vc), .int (iI vk), .int (iI vw), .ref xm, .ref xv, .int (iI vg), .ref xw, .int (iI b2_142), .int (iI vi), .ref xq, .int (iI ve), .int (iI vf), .int (iI vu), .int (iI vl), .ref xr, .ref xh, .ref xo, .ref xp, .int (iI vr), .int (iI va), .int (iI vt), .int (iI vm), .int (iI vd), .int (iI vx)]), (xv, aZ g 72000 fg)] [(xa, aI g 64 (lfT mW 64)), (xb, aI g 64 (lfT mB 64)), (xc, aI g 27 (lfT mWM 27)), (xd, aI g 27 (lfT mBM 27)), (xe, aI g 13 (lfT mBO 13)), (xw, aI g 72000 f2_143)] 3 0 (c_X8_b2_e l g h0 xa xb xc xd xe xf xg xm xv xw xq xr xh xo xp vc vk vw vg b2_142 vi ve vf vu vl vr va vt vm vd vx xv 72000 fg ab q1 B lb (nb1 n bk) (by first | omega | decide | assumption) (by first | omega | decide | assumption) (by first | omega | decide | assumption) (by exact hp6) (by exact ⟨hn0, hq1⟩)) dX8_twoDimensions_76 k1138 k1140 k30 k57 k1141 ykX8_b2 rfl rfl rfl rfl rfl rfl rfl rfl (nl rfl) ⟨nl rfl, nl rfl⟩ ⟨(nl rfl), (nl rfl)⟩ rfl (fun v9 w9 hu => ?_)
          obtain ⟨q3, rfl, rfl, u_146, u_147⟩ := hu
          refine v_is (wn := [(xa, aI g 64 (lfT mW 64)), (xb, aI g 64 (lfT mB 64)), (xc, aI g 27 (lfT mWM 27)), (xd, aI g 27 (lfT mBM 27)), (xe, aI g 13 (lfT mBO 13)), (xw, aI g 72000 f2_143), (h0, ob 8 [.ref xa, .ref xb, .ref xc, .ref xd, .ref xe, .ref xf, .ref xg, .int (iI vc), .int (iI vk), .int (iI vw), .ref xm, .ref xv, .int (iI vg), .ref xw, .int (iI b2_142), .int (iI vi), .ref xq, .int (iI ve), .int (iI vf), .int (iI vu), .int (iI vl), .ref xr, .ref xh, .ref xo, .ref xp, .int (iI vr), .int (iI va), .int (iI vt), .int (iI vm), .int (iI vd), .int (iI vx)]), (xv, aZ g 72000 fg)]) (cn := 0) (sn := 0) (sn2 := [.int (iI q3)]) rfl rfl rfl rfl ?_
          have hbt := bgt_to (a0 := a0) (b := q3) (w := vw) (by omega) (by omega) (by omega)
          have hPn := PreT_pass hi5_4 (by omega) hmA hmB hea u_147 (by omega) rfl
          refine v_istore_n fx [(3, .int (iI q3)), (7, .int (iI (a1 - q1))), (6, .int (iI q1)), (5, .int (iI a1)), (0, .ref h0), (1, .int (iI ba)), (2, .int (iI ab)), (4, .int (iI bk))] dX8_twoDimensions_79 (by decide) rfl rfl ?_
          refine v_goto fx 195 dX8_twoDimensions_80 (by decide) ?_
          refine v_goto fx 5 dX8_twoDimensions_195 (by decide) ?_
          refine v_ws [6, 5, 7, 0, 1, 2, 3, 4] [(h0, ob 8 [.ref xa, .ref xb, .ref xc, .ref xd, .ref xe, .ref xf, .ref xg, .int (iI vc), .int (iI vk), .int (iI vw), .ref xm, .ref xv, .int (iI vg), .ref xw, .int (iI b2_142), .int (iI vi), .ref xq, .int (iI ve), .int (iI vf), .int (iI vu), .int (iI vl), .ref xr, .ref xh, .ref xo, .ref xp, .int (iI vr), .int (iI va), .int (iI vt), .int (iI vm), .int (iI vd), .int (iI vx)]), (xw, aI g 72000 f2_143), (xv, aZ g 72000 fg), (xa, aI g 64 (lfT mW 64)), (xb, aI g 64 (lfT mB 64)), (xc, aI g 27 (lfT mWM 27)), (xd, aI g 27 (lfT mBM 27)), (xe, aI g 13 (lfT mBO 13))] rfl rfl ?_
          refine v_lv [4, 5, 6, 0, 7] [(0, .ref h0), (1, .int (iI ba)), (2, .int (iI ab)), (3, .int (iI q3)), (4, .int (iI bk))] rfl ?_
          exact ihL5 q3 bk b2_142 f2_143 (P ++ codeB 17) (by omega) (by omega) (by omega) (by exact hEn) (by first | exact hPn | exact hPn0 _ (by omega)) (by omega)
  refine v_lv [2, 3, 4, 1, 0] [(0, .ref h0), (1, .int (iI ba)), (2, .int (iI ab)), (3, .int (iI (-1))), (4, .int (iI 0))] rfl ?_
  exact L5 _ (-1) 0 vb f ([]) (by omega) (by omega) (by rw [bgt_0]; omega) (by rw [List.append_nil]; exact hp7) (by exact PreT_0) (Nat.lt_succ_self _)
abbrev po_c_X8_encode_e (g : GG) (h0 : Nat) (xa : Nat) (xb : Nat) (xc : Nat) (xd : Nat) (xe : Nat) (xf : Nat) (xg : Nat) (xm : Nat) (xv : Nat) (xw : Nat) (xq : Nat) (xr : Nat) (xh : Nat) (xo : Nat) (xp : Nat) (vc : Int) (vk : Int) (vw : Int) (vg : Int) (vb : Int) (vi : Int) (ve : Int) (vf : Int) (vu : Int) (vl : Int) (vr : Int) (va : Int) (vt : Int) (vm : Int) (vd : Int) (vx : Int) (f : Nat → Int32) (fg : Nat → Int32) (AA : Int → Int → Int) (lnn : Int → Int) : Option Value → va_W → Prop := fun v8 w8 => ∃ r : Int, ∃ b2 : Int, ∃ f2 : Nat → Int32, ∃ S : List Bool, v8 = some (.int (iI r)) ∧ w8 = [(h0, ob 8 [.ref xa, .ref xb, .ref xc, .ref xd, .ref xe, .ref xf, .ref xg, .int (iI 0), .int (iI vk), .int (iI vw), .ref xm, .ref xv, .int (iI vg), .ref xw, .int (iI b2), .int (iI 1), .ref xq, .int (iI ve), .int (iI vf), .int (iI vu), .int (iI vl), .ref xr, .ref xh, .ref xo, .ref xp, .int (iI vr), .int (iI va), .int (iI vt), .int (iI vm), .int (iI vd), .int (iI vx)]), (xw, aI g 72000 f2), (xv, aZ g 72000 fg), (xa, aI g 64 (lfT mW 64)), (xb, aI g 64 (lfT mB 64)), (xc, aI g 27 (lfT mWM 27)), (xd, aI g 27 (lfT mBM 27)), (xe, aI g 13 (lfT mBO 13))] ∧ (0 ≤ b2 ∧ b2 ≤ 507000) ∧ (r = (b2 + 7) / 8) ∧ (EncR f2 (7 - 7 * vl) b2 S) ∧ (Enc vk vw vf AA lnn vg.toNat S)
set_option maxHeartbeats 4000000 in
set_option maxRecDepth 100000 in
theorem c_X8_encode_e (l : Launch) (g : GG) (h0 : Nat) (xa : Nat) (xb : Nat) (xc : Nat) (xd : Nat) (xe : Nat) (xf : Nat) (xg : Nat) (xm : Nat) (xv : Nat) (xw : Nat) (xq : Nat) (xr : Nat) (xh : Nat) (xo : Nat) (xp : Nat) (vc : Int) (vk : Int) (vw : Int) (vg : Int) (vb : Int) (vi : Int) (ve : Int) (vf : Int) (vu : Int) (vl : Int) (vr : Int) (va : Int) (vt : Int) (vm : Int) (vd : Int) (vx : Int) (f : Nat → Int32) (fg : Nat → Int32) (AA : Int → Int → Int) (lnn : Int → Int) (hp0 : 0 ≤ vk ∧ vk ≤ 2) (hp1 : 0 ≤ vl ∧ vl ≤ 1) (hp2 : 1 ≤ vw ∧ vw ≤ 3000) (hp3 : 0 ≤ vg ∧ vg ≤ 24) (hp4 : 0 ≤ vf ∧ vf ≤ 4000) (hp5 : SmpR vw AA lnn fg vg) : Ct l g yX8_encode (wM yX8_encode cX8_encode 4 (some .int)) (rmD 5 0 0) [.ref h0] [(h0, ob 8 [.ref xa, .ref xb, .ref xc, .ref xd, .ref xe, .ref xf, .ref xg, .int (iI vc), .int (iI vk), .int (iI vw), .ref xm, .ref xv, .int (iI vg), .ref xw, .int (iI vb), .int (iI vi), .ref xq, .int (iI ve), .int (iI vf), .int (iI vu), .int (iI vl), .ref xr, .ref xh, .ref xo, .ref xp, .int (iI vr), .int (iI va), .int (iI vt), .int (iI vm), .int (iI vd), .int (iI vx)]), (xw, aI g 72000 f), (xv, aZ g 72000 fg), (xa, aI g 64 (lfT mW 64)), (xb, aI g 64 (lfT mB 64)), (xc, aI g 27 (lfT mWM 27)), (xd, aI g 27 (lfT mBM 27)), (xe, aI g 13 (lfT mBO 13))] (po_c_X8_encode_e g h0 xa xb xc xd xe xf xg xm xv xw xq xr xh xo xp vc vk vw vg vb vi ve vf vu vl vr va vt vm vd vx f fg AA lnn) := by
  refine Ct_of (by decide +kernel) (Nat.le_of_ble_eq_true rfl) ?_
  intro p9 e9 s9 m9 ag9 bl9 mt9 c9 A9 fx hr hnm
  refine v_aload_n fx 0 dX8_encode_0 rfl rfl ?_
  refine v_iconst fx dX8_encode_1 rfl ?_
  refine v_put fx 0 7 [(h0, ob 8 [.ref xa, .ref xb, .ref xc, .ref xd, .ref xe, .ref xf, .ref xg, .int (iI 0), .int (iI vk), .int (iI vw), .ref xm, .ref xv, .int (iI vg), .ref xw, .int (iI vb), .int (iI vi), .ref xq, .int (iI ve), .int (iI vf), .int (iI vu), .int (iI vl), .ref xr, .ref xh, .ref xo, .ref xp, .int (iI vr), .int (iI va), .int (iI vt), .int (iI vm), .int (iI vd), .int (iI vx)]), (xw, aI g 72000 f), (xv, aZ g 72000 fg), (xa, aI g 64 (lfT mW 64)), (xb, aI g 64 (lfT mB 64)), (xc, aI g 27 (lfT mWM 27)), (xd, aI g 27 (lfT mBM 27)), (xe, aI g 13 (lfT mBO 13))] inX8 tyX8_ok nmX8 k1003 dX8_encode_2 rfl rfl (by decide) rfl rfl rfl rfl (nl rfl) rfl rfl ?_
  refine v_aload_n fx 0 dX8_encode_5 rfl rfl ?_
  refine v_iconst fx dX8_encode_6 rfl ?_
  refine v_put fx 0 14 [(h0, ob 8 [.ref xa, .ref xb, .ref xc, .ref xd, .ref xe, .ref xf, .ref xg, .int (iI 0), .int (iI vk), .int (iI vw), .ref xm, .ref xv, .int (iI vg), .ref xw, .int (iI 0), .int (iI vi), .ref xq, .int (iI ve), .int (iI vf), .int (iI vu), .int (iI vl), .ref xr, .ref xh, .ref xo, .ref xp, .int (iI vr), .int (iI va), .int (iI vt), .int (iI vm), .int (iI vd), .int (iI vx)]), (xw, aI g 72000 f), (xv, aZ g 72000 fg), (xa, aI g 64 (lfT mW 64)), (xb, aI g 64 (lfT mB 64)), (xc, aI g 27 (lfT mWM 27)), (xd, aI g 27 (lfT mBM 27)), (xe, aI g 13 (lfT mBO 13))] inX8 tyX8_ok nmX8 k1010 dX8_encode_7 rfl rfl (by decide) rfl rfl rfl rfl (nl rfl) rfl rfl ?_
  refine v_aload_n fx 0 dX8_encode_10 rfl rfl ?_
  refine v_iconst fx dX8_encode_11 rfl ?_
  refine v_put fx 0 15 [(h0, ob 8 [.ref xa, .ref xb, .ref xc, .ref xd, .ref xe, .ref xf, .ref xg, .int (iI 0), .int (iI vk), .int (iI vw), .ref xm, .ref xv, .int (iI vg), .ref xw, .int (iI 0), .int (iI 1), .ref xq, .int (iI ve), .int (iI vf), .int (iI vu), .int (iI vl), .ref xr, .ref xh, .ref xo, .ref xp, .int (iI vr), .int (iI va), .int (iI vt), .int (iI vm), .int (iI vd), .int (iI vx)]), (xw, aI g 72000 f), (xv, aZ g 72000 fg), (xa, aI g 64 (lfT mW 64)), (xb, aI g 64 (lfT mB 64)), (xc, aI g 27 (lfT mWM 27)), (xd, aI g 27 (lfT mBM 27)), (xe, aI g 13 (lfT mBO 13))] inX8 tyX8_ok nmX8 k1011 dX8_encode_12 rfl rfl (by decide) rfl rfl rfl rfl (nl rfl) rfl rfl ?_
  refine v_iconst fx dX8_encode_15 rfl ?_
  refine v_istore_n fx [(1, .int (iI 0)), (0, .ref h0)] dX8_encode_16 (by decide) rfl rfl ?_
  have L17 : ∀ (N : Nat) (y : Int) (b1 : Int) (f1 : Nat → Int32) (P : List Bool), (0 ≤ y ∧ y ≤ vg) → (0 ≤ b1 ∧ b1 ≤ 21060 * y) → (EncR f1 (7 - 7 * vl) b1 P) → (Doc vk vw vf AA lnn y.toNat P) → ((vg - y).toNat) < N → V p9 l e9 (rmD 5 0 0) s9 m9 ag9 bl9 mt9 c9 4 g A9 (MQ bl9 (cQ g (po_c_X8_encode_e g h0 xa xb xc xd xe xf xg xm xv xw xq xr xh xo xp vc vk vw vg vb vi ve vf vu vl vr va vt vm vd vx f fg AA lnn) A9) ag9 s9 0 0 A9) [(h0, ob 8 [.ref xa, .ref xb, .ref xc, .ref xd, .ref xe, .ref xf, .ref xg, .int (iI 0), .int (iI vk), .int (iI vw), .ref xm, .ref xv, .int (iI vg), .ref xw, .int (iI b1), .int (iI 1), .ref xq, .int (iI ve), .int (iI vf), .int (iI vu), .int (iI vl), .ref xr, .ref xh, .ref xo, .ref xp, .int (iI vr), .int (iI va), .int (iI vt), .int (iI vm), .int (iI vd), .int (iI vx)]), (xw, aI g 72000 f1), (xv, aZ g 72000 fg), (xa, aI g 64 (lfT mW 64)), (xb, aI g 64 (lfT mB 64)), (xc, aI g 27 (lfT mWM 27)), (xd, aI g 27 (lfT mBM 27)), (xe, aI g 13 (lfT mBO 13))] 0 0 [(0, .ref h0), (1, .int (iI y))] 17 [] := by
    intro N
    induction N with
    | zero => intro y b1 f1 P hi17_0 hi17_1 hi17_2 hi17_3 hN; exact absurd hN (Nat.not_lt_zero _)
    | succ N ihL17 =>
      intro y b1 f1 P hi17_0 hi17_1 hi17_2 hi17_3 hN17
      refine v_iload_n fx 1 dX8_encode_17 rfl rfl ?_
      refine v_aload_n fx 0 dX8_encode_18 rfl rfl ?_
      refine v_get fx 0 12 inX8 k1008 dX8_encode_19 rfl rfl (by decide) rfl rfl rfl ?_
      refine v_icmp_ge fx 165 dX8_encode_22 (by decide) rfl (by omega) (by omega) (fun h_1 => ?_) (fun h_1 => ?_)
      ·
        rcases (show vk = 0 ∨ vk = 1 ∨ vk = 2 by omega) with rfl | rfl | rfl
        ·
          refine v_iconst fx dX8_encode_165 rfl ?_
          refine v_istore_n fx [(1, .int (iI 0)), (0, .ref h0)] dX8_encode_166 (by decide) rfl rfl ?_
          refine v_iload_n fx 0 dX8_encode_167 rfl rfl ?_
          refine v_aload_n fx 1 dX8_encode_168 rfl rfl ?_
          refine v_get fx 0 8 inX8 k1004 dX8_encode_169 rfl rfl (by decide) rfl rfl rfl ?_
          refine v_iconst fx dX8_encode_172 rfl ?_
          refine v_icmp_ge fx 181 dX8_encode_173 (by decide) rfl (by omega) (by omega) (fun h0 => absurd h0 (by omega)) (fun h_2 => ?_)
          refine v_bipush fx dX8_encode_176 (by decide +kernel) rfl ?_
          refine v_goto fx 182 dX8_encode_178 (by decide) ?_
          refine v_icmp_ge fx 208 dX8_encode_182 (by decide) rfl (by omega) (by omega) (fun h0 => absurd h0 (by omega)) (fun h_3 => ?_)
          refine v_aload_n fx 1 dX8_encode_185 rfl rfl ?_
          refine v_callV (As := []) (rest := []) fx [0, 1] [2, 3, 4, 5, 6, 7] [(h0, ob 8 [.ref xa, .ref xb, .ref xc, .ref xd, .ref xe, .ref xf, .ref xg, .int (iI 0), .int (iI 0), .int (iI vw), .ref xm, .ref xv, .int (iI vg), .ref xw, .int (iI b1), .int (iI 1), .ref xq, .int (iI ve), .int (iI vf), .int (iI vu), .int (iI vl), .ref xr, .ref xh, .ref xo, .ref xp, .int (iI vr), .int (iI va), .int (iI vt), .int (iI vm), .int (iI vd), .int (iI vx)]), (xw, aI g 72000 f1)] [(xv, aZ g 72000 fg), (xa, aI g 64 (lfT mW 64)), (xb, aI g 64 (lfT mB 64)), (xc, aI g 27 (lfT mWM 27)), (xd, aI g 27 (lfT mBM 27)), (xe, aI g 13 (lfT mBO 13))] 0 0 (c_X8_mark_e l g h0 xa xb xc xd xe xf xg xm xv xw xq xr xh xo xp 0 0 vw vg b1 1 ve vf vu vl vr va vt vm vd vx f1 P (by first | omega | decide | assumption) (by first | omega | decide | assumption) (by assumption)) dX8_encode_186 k1102 k1104 k21 k57 k1105 ykX8_mark rfl rfl rfl rfl rfl rfl rfl rfl (nl rfl) ⟨nl rfl, nl rfl⟩ ⟨(nl rfl), (nl rfl)⟩ rfl (fun v9 w9 hu => ?_)
          obtain ⟨b2_4, f2_5, rfl, rfl, u_6, u_7⟩ := hu
          refine v_is (wn := [(xv, aZ g 72000 fg), (xa, aI g 64 (lfT mW 64)), (xb, aI g 64 (lfT mB 64)), (xc, aI g 27 (lfT mWM 27)), (xd, aI g 27 (lfT mBM 27)), (xe, aI g 13 (lfT mBO 13)), (h0, ob 8 [.ref xa, .ref xb, .ref xc, .ref xd, .ref xe, .ref xf, .ref xg, .int (iI 0), .int (iI 0), .int (iI vw), .ref xm, .ref xv, .int (iI vg), .ref xw, .int (iI b2_4), .int (iI 1), .ref xq, .int (iI ve), .int (iI vf), .int (iI vu), .int (iI vl), .ref xr, .ref xh, .ref xo, .ref xp, .int (iI vr), .int (iI va), .int (iI vt), .int (iI vm), .int (iI vd), .int (iI vx)]), (xw, aI g 72000 f2_5)]) (cn := 0) (sn := 0) (sn2 := []) rfl rfl rfl rfl ?_
          refine v_aload_n fx 1 dX8_encode_189 rfl rfl ?_
          refine v_get fx 6 8 inX8 k1004 dX8_encode_190 rfl rfl (by decide) rfl rfl rfl ?_
          refine v_iconst fx dX8_encode_193 rfl ?_
          refine v_icmp_ne fx 202 dX8_encode_194 (by decide) rfl (by omega) (by omega) (fun h_8 => ?_) (fun h0 => absurd h0 (by omega))
          refine v_iinc fx 0 (1) [(1, .int (iI 1)), (0, .ref h0)] dX8_encode_202 rfl (by omega) (by decide) rfl rfl ?_
          refine v_goto fx 167 dX8_encode_205 (by decide) ?_
          refine v_iload_n fx 0 dX8_encode_167 rfl rfl ?_
          refine v_aload_n fx 1 dX8_encode_168 rfl rfl ?_
          refine v_get fx 6 8 inX8 k1004 dX8_encode_169 rfl rfl (by decide) rfl rfl rfl ?_
          refine v_iconst fx dX8_encode_172 rfl ?_
          refine v_icmp_ge fx 181 dX8_encode_173 (by decide) rfl (by omega) (by omega) (fun h0 => absurd h0 (by omega)) (fun h_9 => ?_)
          refine v_bipush fx dX8_encode_176 (by decide +kernel) rfl ?_
          refine v_goto fx 182 dX8_encode_178 (by decide) ?_
          refine v_icmp_ge fx 208 dX8_encode_182 (by decide) rfl (by omega) (by omega) (fun h0 => absurd h0 (by omega)) (fun h_10 => ?_)
          refine v_aload_n fx 1 dX8_encode_185 rfl rfl ?_
          refine v_callV (As := []) (rest := []) fx [6, 7] [0, 1, 2, 3, 4, 5] [(h0, ob 8 [.ref xa, .ref xb, .ref xc, .ref xd, .ref xe, .ref xf, .ref xg, .int (iI 0), .int (iI 0), .int (iI vw), .ref xm, .ref xv, .int (iI vg), .ref xw, .int (iI b2_4), .int (iI 1), .ref xq, .int (iI ve), .int (iI vf), .int (iI vu), .int (iI vl), .ref xr, .ref xh, .ref xo, .ref xp, .int (iI vr), .int (iI va), .int (iI vt), .int (iI vm), .int (iI vd), .int (iI vx)]), (xw, aI g 72000 f2_5)] [(xv, aZ g 72000 fg), (xa, aI g 64 (lfT mW 64)), (xb, aI g 64 (lfT mB 64)), (xc, aI g 27 (lfT mWM 27)), (xd, aI g 27 (lfT mBM 27)), (xe, aI g 13 (lfT mBO 13))] 0 0 (c_X8_mark_e l g h0 xa xb xc xd xe xf xg xm xv xw xq xr xh xo xp 0 0 vw vg b2_4 1 ve vf vu vl vr va vt vm vd vx f2_5 ((P) ++ codeB 4097) (by first | omega | decide | assumption) (by first | omega | decide | assumption) (by assumption)) dX8_encode_186 k1102 k1104 k21 k57 k1105 ykX8_mark rfl rfl rfl rfl rfl rfl rfl rfl (nl rfl) ⟨nl rfl, nl rfl⟩ ⟨(nl rfl), (nl rfl)⟩ rfl (fun v9 w9 hu => ?_)
          obtain ⟨b2_11, f2_12, rfl, rfl, u_13, u_14⟩ := hu
          refine v_is (wn := [(xv, aZ g 72000 fg), (xa, aI g 64 (lfT mW 64)), (xb, aI g 64 (lfT mB 64)), (xc, aI g 27 (lfT mWM 27)), (xd, aI g 27 (lfT mBM 27)), (xe, aI g 13 (lfT mBO 13)), (h0, ob 8 [.ref xa, .ref xb, .ref xc, .ref xd, .ref xe, .ref xf, .ref xg, .int (iI 0), .int (iI 0), .int (iI vw), .ref xm, .ref xv, .int (iI vg), .ref xw, .int (iI b2_11), .int (iI 1), .ref xq, .int (iI ve), .int (iI vf), .int (iI vu), .int (iI vl), .ref xr, .ref xh, .ref xo, .ref xp, .int (iI vr), .int (iI va), .int (iI vt), .int (iI vm), .int (iI vd), .int (iI vx)]), (xw, aI g 72000 f2_12)]) (cn := 0) (sn := 0) (sn2 := []) rfl rfl rfl rfl ?_
          refine v_aload_n fx 1 dX8_encode_189 rfl rfl ?_
          refine v_get fx 6 8 inX8 k1004 dX8_encode_190 rfl rfl (by decide) rfl rfl rfl ?_
          refine v_iconst fx dX8_encode_193 rfl ?_
          refine v_icmp_ne fx 202 dX8_encode_194 (by decide) rfl (by omega) (by omega) (fun h_15 => ?_) (fun h0 => absurd h0 (by omega))
          refine v_iinc fx 0 (2) [(1, .int (iI 2)), (0, .ref h0)] dX8_encode_202 rfl (by omega) (by decide) rfl rfl ?_
          refine v_goto fx 167 dX8_encode_205 (by decide) ?_
          refine v_iload_n fx 0 dX8_encode_167 rfl rfl ?_
          refine v_aload_n fx 1 dX8_encode_168 rfl rfl ?_
          refine v_get fx 6 8 inX8 k1004 dX8_encode_169 rfl rfl (by decide) rfl rfl rfl ?_
          refine v_iconst fx dX8_encode_172 rfl ?_
          refine v_icmp_ge fx 181 dX8_encode_173 (by decide) rfl (by omega) (by omega) (fun h0 => absurd h0 (by omega)) (fun h_16 => ?_)
          refine v_bipush fx dX8_encode_176 (by decide +kernel) rfl ?_
          refine v_goto fx 182 dX8_encode_178 (by decide) ?_
          refine v_icmp_ge fx 208 dX8_encode_182 (by decide) rfl (by omega) (by omega) (fun h0 => absurd h0 (by omega)) (fun h_17 => ?_)
          refine v_aload_n fx 1 dX8_encode_185 rfl rfl ?_
          refine v_callV (As := []) (rest := []) fx [6, 7] [0, 1, 2, 3, 4, 5] [(h0, ob 8 [.ref xa, .ref xb, .ref xc, .ref xd, .ref xe, .ref xf, .ref xg, .int (iI 0), .int (iI 0), .int (iI vw), .ref xm, .ref xv, .int (iI vg), .ref xw, .int (iI b2_11), .int (iI 1), .ref xq, .int (iI ve), .int (iI vf), .int (iI vu), .int (iI vl), .ref xr, .ref xh, .ref xo, .ref xp, .int (iI vr), .int (iI va), .int (iI vt), .int (iI vm), .int (iI vd), .int (iI vx)]), (xw, aI g 72000 f2_12)] [(xv, aZ g 72000 fg), (xa, aI g 64 (lfT mW 64)), (xb, aI g 64 (lfT mB 64)), (xc, aI g 27 (lfT mWM 27)), (xd, aI g 27 (lfT mBM 27)), (xe, aI g 13 (lfT mBO 13))] 0 0 (c_X8_mark_e l g h0 xa xb xc xd xe xf xg xm xv xw xq xr xh xo xp 0 0 vw vg b2_11 1 ve vf vu vl vr va vt vm vd vx f2_12 (((P) ++ codeB 4097) ++ codeB 4097) (by first | omega | decide | assumption) (by first | omega | decide | assumption) (by assumption)) dX8_encode_186 k1102 k1104 k21 k57 k1105 ykX8_mark rfl rfl rfl rfl rfl rfl rfl rfl (nl rfl) ⟨nl rfl, nl rfl⟩ ⟨(nl rfl), (nl rfl)⟩ rfl (fun v9 w9 hu => ?_)
          obtain ⟨b2_18, f2_19, rfl, rfl, u_20, u_21⟩ := hu
          refine v_is (wn := [(xv, aZ g 72000 fg), (xa, aI g 64 (lfT mW 64)), (xb, aI g 64 (lfT mB 64)), (xc, aI g 27 (lfT mWM 27)), (xd, aI g 27 (lfT mBM 27)), (xe, aI g 13 (lfT mBO 13)), (h0, ob 8 [.ref xa, .ref xb, .ref xc, .ref xd, .ref xe, .ref xf, .ref xg, .int (iI 0), .int (iI 0), .int (iI vw), .ref xm, .ref xv, .int (iI vg), .ref xw, .int (iI b2_18), .int (iI 1), .ref xq, .int (iI ve), .int (iI vf), .int (iI vu), .int (iI vl), .ref xr, .ref xh, .ref xo, .ref xp, .int (iI vr), .int (iI va), .int (iI vt), .int (iI vm), .int (iI vd), .int (iI vx)]), (xw, aI g 72000 f2_19)]) (cn := 0) (sn := 0) (sn2 := []) rfl rfl rfl rfl ?_
          refine v_aload_n fx 1 dX8_encode_189 rfl rfl ?_
          refine v_get fx 6 8 inX8 k1004 dX8_encode_190 rfl rfl (by decide) rfl rfl rfl ?_
          refine v_iconst fx dX8_encode_193 rfl ?_
          refine v_icmp_ne fx 202 dX8_encode_194 (by decide) rfl (by omega) (by omega) (fun h_22 => ?_) (fun h0 => absurd h0 (by omega))
          refine v_iinc fx 0 (3) [(1, .int (iI 3)), (0, .ref h0)] dX8_encode_202 rfl (by omega) (by decide) rfl rfl ?_
          refine v_goto fx 167 dX8_encode_205 (by decide) ?_
          refine v_iload_n fx 0 dX8_encode_167 rfl rfl ?_
          refine v_aload_n fx 1 dX8_encode_168 rfl rfl ?_
          refine v_get fx 6 8 inX8 k1004 dX8_encode_169 rfl rfl (by decide) rfl rfl rfl ?_
          refine v_iconst fx dX8_encode_172 rfl ?_
          refine v_icmp_ge fx 181 dX8_encode_173 (by decide) rfl (by omega) (by omega) (fun h0 => absurd h0 (by omega)) (fun h_23 => ?_)
          refine v_bipush fx dX8_encode_176 (by decide +kernel) rfl ?_
          refine v_goto fx 182 dX8_encode_178 (by decide) ?_
          refine v_icmp_ge fx 208 dX8_encode_182 (by decide) rfl (by omega) (by omega) (fun h0 => absurd h0 (by omega)) (fun h_24 => ?_)
          refine v_aload_n fx 1 dX8_encode_185 rfl rfl ?_
          refine v_callV (As := []) (rest := []) fx [6, 7] [0, 1, 2, 3, 4, 5] [(h0, ob 8 [.ref xa, .ref xb, .ref xc, .ref xd, .ref xe, .ref xf, .ref xg, .int (iI 0), .int (iI 0), .int (iI vw), .ref xm, .ref xv, .int (iI vg), .ref xw, .int (iI b2_18), .int (iI 1), .ref xq, .int (iI ve), .int (iI vf), .int (iI vu), .int (iI vl), .ref xr, .ref xh, .ref xo, .ref xp, .int (iI vr), .int (iI va), .int (iI vt), .int (iI vm), .int (iI vd), .int (iI vx)]), (xw, aI g 72000 f2_19)] [(xv, aZ g 72000 fg), (xa, aI g 64 (lfT mW 64)), (xb, aI g 64 (lfT mB 64)), (xc, aI g 27 (lfT mWM 27)), (xd, aI g 27 (lfT mBM 27)), (xe, aI g 13 (lfT mBO 13))] 0 0 (c_X8_mark_e l g h0 xa xb xc xd xe xf xg xm xv xw xq xr xh xo xp 0 0 vw vg b2_18 1 ve vf vu vl vr va vt vm vd vx f2_19 ((((P) ++ codeB 4097) ++ codeB 4097) ++ codeB 4097) (by first | omega | decide | assumption) (by first | omega | decide | assumption) (by assumption)) dX8_encode_186 k1102 k1104 k21 k57 k1105 ykX8_mark rfl rfl rfl rfl rfl rfl rfl rfl (nl rfl) ⟨nl rfl, nl rfl⟩ ⟨(nl rfl), (nl rfl)⟩ rfl (fun v9 w9 hu => ?_)
          obtain ⟨b2_25, f2_26, rfl, rfl, u_27, u_28⟩ := hu
          refine v_is (wn := [(xv, aZ g 72000 fg), (xa, aI g 64 (lfT mW 64)), (xb, aI g 64 (lfT mB 64)), (xc, aI g 27 (lfT mWM 27)), (xd, aI g 27 (lfT mBM 27)), (xe, aI g 13 (lfT mBO 13)), (h0, ob 8 [.ref xa, .ref xb, .ref xc, .ref xd, .ref xe, .ref xf, .ref xg, .int (iI 0), .int (iI 0), .int (iI vw), .ref xm, .ref xv, .int (iI vg), .ref xw, .int (iI b2_25), .int (iI 1), .ref xq, .int (iI ve), .int (iI vf), .int (iI vu), .int (iI vl), .ref xr, .ref xh, .ref xo, .ref xp, .int (iI vr), .int (iI va), .int (iI vt), .int (iI vm), .int (iI vd), .int (iI vx)]), (xw, aI g 72000 f2_26)]) (cn := 0) (sn := 0) (sn2 := []) rfl rfl rfl rfl ?_
          refine v_aload_n fx 1 dX8_encode_189 rfl rfl ?_
          refine v_get fx 6 8 inX8 k1004 dX8_encode_190 rfl rfl (by decide) rfl rfl rfl ?_
          refine v_iconst fx dX8_encode_193 rfl ?_
          refine v_icmp_ne fx 202 dX8_encode_194 (by decide) rfl (by omega) (by omega) (fun h_29 => ?_) (fun h0 => absurd h0 (by omega))
          refine v_iinc fx 0 (4) [(1, .int (iI 4)), (0, .ref h0)] dX8_encode_202 rfl (by omega) (by decide) rfl rfl ?_
          refine v_goto fx 167 dX8_encode_205 (by decide) ?_
          refine v_iload_n fx 0 dX8_encode_167 rfl rfl ?_
          refine v_aload_n fx 1 dX8_encode_168 rfl rfl ?_
          refine v_get fx 6 8 inX8 k1004 dX8_encode_169 rfl rfl (by decide) rfl rfl rfl ?_
          refine v_iconst fx dX8_encode_172 rfl ?_
          refine v_icmp_ge fx 181 dX8_encode_173 (by decide) rfl (by omega) (by omega) (fun h0 => absurd h0 (by omega)) (fun h_30 => ?_)
          refine v_bipush fx dX8_encode_176 (by decide +kernel) rfl ?_
          refine v_goto fx 182 dX8_encode_178 (by decide) ?_
          refine v_icmp_ge fx 208 dX8_encode_182 (by decide) rfl (by omega) (by omega) (fun h0 => absurd h0 (by omega)) (fun h_31 => ?_)
          refine v_aload_n fx 1 dX8_encode_185 rfl rfl ?_
          refine v_callV (As := []) (rest := []) fx [6, 7] [0, 1, 2, 3, 4, 5] [(h0, ob 8 [.ref xa, .ref xb, .ref xc, .ref xd, .ref xe, .ref xf, .ref xg, .int (iI 0), .int (iI 0), .int (iI vw), .ref xm, .ref xv, .int (iI vg), .ref xw, .int (iI b2_25), .int (iI 1), .ref xq, .int (iI ve), .int (iI vf), .int (iI vu), .int (iI vl), .ref xr, .ref xh, .ref xo, .ref xp, .int (iI vr), .int (iI va), .int (iI vt), .int (iI vm), .int (iI vd), .int (iI vx)]), (xw, aI g 72000 f2_26)] [(xv, aZ g 72000 fg), (xa, aI g 64 (lfT mW 64)), (xb, aI g 64 (lfT mB 64)), (xc, aI g 27 (lfT mWM 27)), (xd, aI g 27 (lfT mBM 27)), (xe, aI g 13 (lfT mBO 13))] 0 0 (c_X8_mark_e l g h0 xa xb xc xd xe xf xg xm xv xw xq xr xh xo xp 0 0 vw vg b2_25 1 ve vf vu vl vr va vt vm vd vx f2_26 (((((P) ++ codeB 4097) ++ codeB 4097) ++ codeB 4097) ++ codeB 4097) (by first | omega | decide | assumption) (by first | omega | decide | assumption) (by assumption)) dX8_encode_186 k1102 k1104 k21 k57 k1105 ykX8_mark rfl rfl rfl rfl rfl rfl rfl rfl (nl rfl) ⟨nl rfl, nl rfl⟩ ⟨(nl rfl), (nl rfl)⟩ rfl (fun v9 w9 hu => ?_)
          obtain ⟨b2_32, f2_33, rfl, rfl, u_34, u_35⟩ := hu
          refine v_is (wn := [(xv, aZ g 72000 fg), (xa, aI g 64 (lfT mW 64)), (xb, aI g 64 (lfT mB 64)), (xc, aI g 27 (lfT mWM 27)), (xd, aI g 27 (lfT mBM 27)), (xe, aI g 13 (lfT mBO 13)), (h0, ob 8 [.ref xa, .ref xb, .ref xc, .ref xd, .ref xe, .ref xf, .ref xg, .int (iI 0), .int (iI 0), .int (iI vw), .ref xm, .ref xv, .int (iI vg), .ref xw, .int (iI b2_32), .int (iI 1), .ref xq, .int (iI ve), .int (iI vf), .int (iI vu), .int (iI vl), .ref xr, .ref xh, .ref xo, .ref xp, .int (iI vr), .int (iI va), .int (iI vt), .int (iI vm), .int (iI vd), .int (iI vx)]), (xw, aI g 72000 f2_33)]) (cn := 0) (sn := 0) (sn2 := []) rfl rfl rfl rfl ?_
          refine v_aload_n fx 1 dX8_encode_189 rfl rfl ?_
          refine v_get fx 6 8 inX8 k1004 dX8_encode_190 rfl rfl (by decide) rfl rfl rfl ?_
          refine v_iconst fx dX8_encode_193 rfl ?_
          refine v_icmp_ne fx 202 dX8_encode_194 (by decide) rfl (by omega) (by omega) (fun h_36 => ?_) (fun h0 => absurd h0 (by omega))
          refine v_iinc fx 0 (5) [(1, .int (iI 5)), (0, .ref h0)] dX8_encode_202 rfl (by omega) (by decide) rfl rfl ?_
          refine v_goto fx 167 dX8_encode_205 (by decide) ?_
          refine v_iload_n fx 0 dX8_encode_167 rfl rfl ?_
          refine v_aload_n fx 1 dX8_encode_168 rfl rfl ?_
          refine v_get fx 6 8 inX8 k1004 dX8_encode_169 rfl rfl (by decide) rfl rfl rfl ?_
          refine v_iconst fx dX8_encode_172 rfl ?_
          refine v_icmp_ge fx 181 dX8_encode_173 (by decide) rfl (by omega) (by omega) (fun h0 => absurd h0 (by omega)) (fun h_37 => ?_)
          refine v_bipush fx dX8_encode_176 (by decide +kernel) rfl ?_
          refine v_goto fx 182 dX8_encode_178 (by decide) ?_
          refine v_icmp_ge fx 208 dX8_encode_182 (by decide) rfl (by omega) (by omega) (fun h0 => absurd h0 (by omega)) (fun h_38 => ?_)
          refine v_aload_n fx 1 dX8_encode_185 rfl rfl ?_
          refine v_callV (As := []) (rest := []) fx [6, 7] [0, 1, 2, 3, 4, 5] [(h0, ob 8 [.ref xa, .ref xb, .ref xc, .ref xd, .ref xe, .ref xf, .ref xg, .int (iI 0), .int (iI 0), .int (iI vw), .ref xm, .ref xv, .int (iI vg), .ref xw, .int (iI b2_32), .int (iI 1), .ref xq, .int (iI ve), .int (iI vf), .int (iI vu), .int (iI vl), .ref xr, .ref xh, .ref xo, .ref xp, .int (iI vr), .int (iI va), .int (iI vt), .int (iI vm), .int (iI vd), .int (iI vx)]), (xw, aI g 72000 f2_33)] [(xv, aZ g 72000 fg), (xa, aI g 64 (lfT mW 64)), (xb, aI g 64 (lfT mB 64)), (xc, aI g 27 (lfT mWM 27)), (xd, aI g 27 (lfT mBM 27)), (xe, aI g 13 (lfT mBO 13))] 0 0 (c_X8_mark_e l g h0 xa xb xc xd xe xf xg xm xv xw xq xr xh xo xp 0 0 vw vg b2_32 1 ve vf vu vl vr va vt vm vd vx f2_33 ((((((P) ++ codeB 4097) ++ codeB 4097) ++ codeB 4097) ++ codeB 4097) ++ codeB 4097) (by first | omega | decide | assumption) (by first | omega | decide | assumption) (by assumption)) dX8_encode_186 k1102 k1104 k21 k57 k1105 ykX8_mark rfl rfl rfl rfl rfl rfl rfl rfl (nl rfl) ⟨nl rfl, nl rfl⟩ ⟨(nl rfl), (nl rfl)⟩ rfl (fun v9 w9 hu => ?_)
          obtain ⟨b2_39, f2_40, rfl, rfl, u_41, u_42⟩ := hu
          refine v_is (wn := [(xv, aZ g 72000 fg), (xa, aI g 64 (lfT mW 64)), (xb, aI g 64 (lfT mB 64)), (xc, aI g 27 (lfT mWM 27)), (xd, aI g 27 (lfT mBM 27)), (xe, aI g 13 (lfT mBO 13)), (h0, ob 8 [.ref xa, .ref xb, .ref xc, .ref xd, .ref xe, .ref xf, .ref xg, .int (iI 0), .int (iI 0), .int (iI vw), .ref xm, .ref xv, .int (iI vg), .ref xw, .int (iI b2_39), .int (iI 1), .ref xq, .int (iI ve), .int (iI vf), .int (iI vu), .int (iI vl), .ref xr, .ref xh, .ref xo, .ref xp, .int (iI vr), .int (iI va), .int (iI vt), .int (iI vm), .int (iI vd), .int (iI vx)]), (xw, aI g 72000 f2_40)]) (cn := 0) (sn := 0) (sn2 := []) rfl rfl rfl rfl ?_
          refine v_aload_n fx 1 dX8_encode_189 rfl rfl ?_
          refine v_get fx 6 8 inX8 k1004 dX8_encode_190 rfl rfl (by decide) rfl rfl rfl ?_
          refine v_iconst fx dX8_encode_193 rfl ?_
          refine v_icmp_ne fx 202 dX8_encode_194 (by decide) rfl (by omega) (by omega) (fun h_43 => ?_) (fun h0 => absurd h0 (by omega))
          refine v_iinc fx 0 (6) [(1, .int (iI 6)), (0, .ref h0)] dX8_encode_202 rfl (by omega) (by decide) rfl rfl ?_
          refine v_goto fx 167 dX8_encode_205 (by decide) ?_
          refine v_iload_n fx 0 dX8_encode_167 rfl rfl ?_
          refine v_aload_n fx 1 dX8_encode_168 rfl rfl ?_
          refine v_get fx 6 8 inX8 k1004 dX8_encode_169 rfl rfl (by decide) rfl rfl rfl ?_
          refine v_iconst fx dX8_encode_172 rfl ?_
          refine v_icmp_ge fx 181 dX8_encode_173 (by decide) rfl (by omega) (by omega) (fun h0 => absurd h0 (by omega)) (fun h_44 => ?_)
          refine v_bipush fx dX8_encode_176 (by decide +kernel) rfl ?_
          refine v_goto fx 182 dX8_encode_178 (by decide) ?_
          refine v_icmp_ge fx 208 dX8_encode_182 (by decide) rfl (by omega) (by omega) (fun h_45 => ?_) (fun h0 => absurd h0 (by omega))
          refine v_aload_n fx 1 dX8_encode_208 rfl rfl ?_
          refine v_get fx 6 14 inX8 k1010 dX8_encode_209 rfl rfl (by decide) rfl rfl rfl ?_
          refine v_bipush fx dX8_encode_212 (by decide +kernel) rfl ?_
          refine v_iadd fx (b2_39 + 7) dX8_encode_214 (by rfl) rfl ?_
          refine v_bipush fx dX8_encode_215 (by decide +kernel) rfl ?_
          refine v_idiv fx (iI ((b2_39 + 7) / 8)) dX8_encode_217 (by decide) (iI_div (by omega) 8 (by decide) (by decide)) rfl ?_
          exact v_iret fx [(h0, ob 8 [.ref xa, .ref xb, .ref xc, .ref xd, .ref xe, .ref xf, .ref xg, .int (iI 0), .int (iI 0), .int (iI vw), .ref xm, .ref xv, .int (iI vg), .ref xw, .int (iI b2_39), .int (iI 1), .ref xq, .int (iI ve), .int (iI vf), .int (iI vu), .int (iI vl), .ref xr, .ref xh, .ref xo, .ref xp, .int (iI vr), .int (iI va), .int (iI vt), .int (iI vm), .int (iI vd), .int (iI vx)]), (xw, aI g 72000 f2_40), (xv, aZ g 72000 fg), (xa, aI g 64 (lfT mW 64)), (xb, aI g 64 (lfT mB 64)), (xc, aI g 27 (lfT mWM 27)), (xd, aI g 27 (lfT mBM 27)), (xe, aI g 13 (lfT mBO 13))] [6, 7, 0, 1, 2, 3, 4, 5] hr dX8_encode_218 rfl rfl (nl rfl) (nl rfl) ⟨((b2_39 + 7) / 8), b2_39, f2_40, (((((((P) ++ codeB 4097) ++ codeB 4097) ++ codeB 4097) ++ codeB 4097) ++ codeB 4097) ++ codeB 4097), rfl, rfl, (by first | omega | rfl | assumption), (by first | omega | rfl | assumption), (by assumption), (by first | exact ⟨P, by rw [show vg.toNat = y.toNat by omega]; exact hi17_3, end_R0⟩ | exact ⟨P, by rw [show vg.toNat = y.toNat by omega]; exact hi17_3, end_R1⟩ | exact ⟨P, by rw [show vg.toNat = y.toNat by omega]; exact hi17_3, end_2⟩)⟩
        ·
          refine v_iconst fx dX8_encode_165 rfl ?_
          refine v_istore_n fx [(1, .int (iI 0)), (0, .ref h0)] dX8_encode_166 (by decide) rfl rfl ?_
          refine v_iload_n fx 0 dX8_encode_167 rfl rfl ?_
          refine v_aload_n fx 1 dX8_encode_168 rfl rfl ?_
          refine v_get fx 0 8 inX8 k1004 dX8_encode_169 rfl rfl (by decide) rfl rfl rfl ?_
          refine v_iconst fx dX8_encode_172 rfl ?_
          refine v_icmp_ge fx 181 dX8_encode_173 (by decide) rfl (by omega) (by omega) (fun h0 => absurd h0 (by omega)) (fun h_46 => ?_)
          refine v_bipush fx dX8_encode_176 (by decide +kernel) rfl ?_
          refine v_goto fx 182 dX8_encode_178 (by decide) ?_
          refine v_icmp_ge fx 208 dX8_encode_182 (by decide) rfl (by omega) (by omega) (fun h0 => absurd h0 (by omega)) (fun h_47 => ?_)
          refine v_aload_n fx 1 dX8_encode_185 rfl rfl ?_
          refine v_callV (As := []) (rest := []) fx [0, 1] [2, 3, 4, 5, 6, 7] [(h0, ob 8 [.ref xa, .ref xb, .ref xc, .ref xd, .ref xe, .ref xf, .ref xg, .int (iI 0), .int (iI 1), .int (iI vw), .ref xm, .ref xv, .int (iI vg), .ref xw, .int (iI b1), .int (iI 1), .ref xq, .int (iI ve), .int (iI vf), .int (iI vu), .int (iI vl), .ref xr, .ref xh, .ref xo, .ref xp, .int (iI vr), .int (iI va), .int (iI vt), .int (iI vm), .int (iI vd), .int (iI vx)]), (xw, aI g 72000 f1)] [(xv, aZ g 72000 fg), (xa, aI g 64 (lfT mW 64)), (xb, aI g 64 (lfT mB 64)), (xc, aI g 27 (lfT mWM 27)), (xd, aI g 27 (lfT mBM 27)), (xe, aI g 13 (lfT mBO 13))] 0 0 (c_X8_mark_e l g h0 xa xb xc xd xe xf xg xm xv xw xq xr xh xo xp 0 1 vw vg b1 1 ve vf vu vl vr va vt vm vd vx f1 P (by first | omega | decide | assumption) (by first | omega | decide | assumption) (by assumption)) dX8_encode_186 k1102 k1104 k21 k57 k1105 ykX8_mark rfl rfl rfl rfl rfl rfl rfl rfl (nl rfl) ⟨nl rfl, nl rfl⟩ ⟨(nl rfl), (nl rfl)⟩ rfl (fun v9 w9 hu => ?_)
          obtain ⟨b2_48, f2_49, rfl, rfl, u_50, u_51⟩ := hu
          refine v_is (wn := [(xv, aZ g 72000 fg), (xa, aI g 64 (lfT mW 64)), (xb, aI g 64 (lfT mB 64)), (xc, aI g 27 (lfT mWM 27)), (xd, aI g 27 (lfT mBM 27)), (xe, aI g 13 (lfT mBO 13)), (h0, ob 8 [.ref xa, .ref xb, .ref xc, .ref xd, .ref xe, .ref xf, .ref xg, .int (iI 0), .int (iI 1), .int (iI vw), .ref xm, .ref xv, .int (iI vg), .ref xw, .int (iI b2_48), .int (iI 1), .ref xq, .int (iI ve), .int (iI vf), .int (iI vu), .int (iI vl), .ref xr, .ref xh, .ref xo, .ref xp, .int (iI vr), .int (iI va), .int (iI vt), .int (iI vm), .int (iI vd), .int (iI vx)]), (xw, aI g 72000 f2_49)]) (cn := 0) (sn := 0) (sn2 := []) rfl rfl rfl rfl ?_
          refine v_aload_n fx 1 dX8_encode_189 rfl rfl ?_
          refine v_get fx 6 8 inX8 k1004 dX8_encode_190 rfl rfl (by decide) rfl rfl rfl ?_
          refine v_iconst fx dX8_encode_193 rfl ?_
          refine v_icmp_ne fx 202 dX8_encode_194 (by decide) rfl (by omega) (by omega) (fun h0 => absurd h0 (by omega)) (fun h_52 => ?_)
          refine v_aload_n fx 1 dX8_encode_197 rfl rfl ?_
          refine v_iconst fx dX8_encode_198 rfl ?_
          refine v_callV (As := [.int (iI 1)]) (rest := []) fx [6, 7] [0, 1, 2, 3, 4, 5] [(h0, ob 8 [.ref xa, .ref xb, .ref xc, .ref xd, .ref xe, .ref xf, .ref xg, .int (iI 0), .int (iI 1), .int (iI vw), .ref xm, .ref xv, .int (iI vg), .ref xw, .int (iI b2_48), .int (iI 1), .ref xq, .int (iI ve), .int (iI vf), .int (iI vu), .int (iI vl), .ref xr, .ref xh, .ref xo, .ref xp, .int (iI vr), .int (iI va), .int (iI vt), .int (iI vm), .int (iI vd), .int (iI vx)]), (xw, aI g 72000 f2_49)] [(xv, aZ g 72000 fg), (xa, aI g 64 (lfT mW 64)), (xb, aI g 64 (lfT mB 64)), (xc, aI g 27 (lfT mWM 27)), (xd, aI g 27 (lfT mBM 27)), (xe, aI g 13 (lfT mBO 13))] 1 0 (c_X8_bit_e l g h0 xa xb xc xd xe xf xg xm xv xw xq xr xh xo xp 0 1 vw vg b2_48 1 ve vf vu vl vr va vt vm vd vx f2_49 1 ((P) ++ codeB 4097) (by first | omega | decide | assumption) (by first | omega | decide | assumption) (by first | omega | decide | assumption) (by assumption)) dX8_encode_199 k1110 k1112 k23 k57 k1113 ykX8_bit rfl rfl rfl rfl rfl rfl rfl rfl (nl rfl) ⟨nl rfl, nl rfl⟩ ⟨(nl rfl), (nl rfl)⟩ rfl (fun v9 w9 hu => ?_)
          obtain ⟨f2_53, rfl, rfl, u_54⟩ := hu
          refine v_is (wn := [(xv, aZ g 72000 fg), (xa, aI g 64 (lfT mW 64)), (xb, aI g 64 (lfT mB 64)), (xc, aI g 27 (lfT mWM 27)), (xd, aI g 27 (lfT mBM 27)), (xe, aI g 13 (lfT mBO 13)), (h0, ob 8 [.ref xa, .ref xb, .ref xc, .ref xd, .ref xe, .ref xf, .ref xg, .int (iI 0), .int (iI 1), .int (iI vw), .ref xm, .ref xv, .int (iI vg), .ref xw, .int (iI (b2_48 + 1)), .int (iI 1), .ref xq, .int (iI ve), .int (iI vf), .int (iI vu), .int (iI vl), .ref xr, .ref xh, .ref xo, .ref xp, .int (iI vr), .int (iI va), .int (iI vt), .int (iI vm), .int (iI vd), .int (iI vx)]), (xw, aI g 72000 f2_53)]) (cn := 0) (sn := 0) (sn2 := []) rfl rfl rfl rfl ?_
          refine v_iinc fx 0 (1) [(1, .int (iI 1)), (0, .ref h0)] dX8_encode_202 rfl (by omega) (by decide) rfl rfl ?_
          refine v_goto fx 167 dX8_encode_205 (by decide) ?_
          refine v_iload_n fx 0 dX8_encode_167 rfl rfl ?_
          refine v_aload_n fx 1 dX8_encode_168 rfl rfl ?_
          refine v_get fx 6 8 inX8 k1004 dX8_encode_169 rfl rfl (by decide) rfl rfl rfl ?_
          refine v_iconst fx dX8_encode_172 rfl ?_
          refine v_icmp_ge fx 181 dX8_encode_173 (by decide) rfl (by omega) (by omega) (fun h0 => absurd h0 (by omega)) (fun h_55 => ?_)
          refine v_bipush fx dX8_encode_176 (by decide +kernel) rfl ?_
          refine v_goto fx 182 dX8_encode_178 (by decide) ?_
          refine v_icmp_ge fx 208 dX8_encode_182 (by decide) rfl (by omega) (by omega) (fun h0 => absurd h0 (by omega)) (fun h_56 => ?_)
          refine v_aload_n fx 1 dX8_encode_185 rfl rfl ?_
          refine v_callV (As := []) (rest := []) fx [6, 7] [0, 1, 2, 3, 4, 5] [(h0, ob 8 [.ref xa, .ref xb, .ref xc, .ref xd, .ref xe, .ref xf, .ref xg, .int (iI 0), .int (iI 1), .int (iI vw), .ref xm, .ref xv, .int (iI vg), .ref xw, .int (iI (b2_48 + 1)), .int (iI 1), .ref xq, .int (iI ve), .int (iI vf), .int (iI vu), .int (iI vl), .ref xr, .ref xh, .ref xo, .ref xp, .int (iI vr), .int (iI va), .int (iI vt), .int (iI vm), .int (iI vd), .int (iI vx)]), (xw, aI g 72000 f2_53)] [(xv, aZ g 72000 fg), (xa, aI g 64 (lfT mW 64)), (xb, aI g 64 (lfT mB 64)), (xc, aI g 27 (lfT mWM 27)), (xd, aI g 27 (lfT mBM 27)), (xe, aI g 13 (lfT mBO 13))] 0 0 (c_X8_mark_e l g h0 xa xb xc xd xe xf xg xm xv xw xq xr xh xo xp 0 1 vw vg (b2_48 + 1) 1 ve vf vu vl vr va vt vm vd vx f2_53 (((P) ++ codeB 4097) ++ [decide ((1 : Int) = 1)]) (by first | omega | decide | assumption) (by first | omega | decide | assumption) (by assumption)) dX8_encode_186 k1102 k1104 k21 k57 k1105 ykX8_mark rfl rfl rfl rfl rfl rfl rfl rfl (nl rfl) ⟨nl rfl, nl rfl⟩ ⟨(nl rfl), (nl rfl)⟩ rfl (fun v9 w9 hu => ?_)
          obtain ⟨b2_57, f2_58, rfl, rfl, u_59, u_60⟩ := hu
          refine v_is (wn := [(xv, aZ g 72000 fg), (xa, aI g 64 (lfT mW 64)), (xb, aI g 64 (lfT mB 64)), (xc, aI g 27 (lfT mWM 27)), (xd, aI g 27 (lfT mBM 27)), (xe, aI g 13 (lfT mBO 13)), (h0, ob 8 [.ref xa, .ref xb, .ref xc, .ref xd, .ref xe, .ref xf, .ref xg, .int (iI 0), .int (iI 1), .int (iI vw), .ref xm, .ref xv, .int (iI vg), .ref xw, .int (iI b2_57), .int (iI 1), .ref xq, .int (iI ve), .int (iI vf), .int (iI vu), .int (iI vl), .ref xr, .ref xh, .ref xo, .ref xp, .int (iI vr), .int (iI va), .int (iI vt), .int (iI vm), .int (iI vd), .int (iI vx)]), (xw, aI g 72000 f2_58)]) (cn := 0) (sn := 0) (sn2 := []) rfl rfl rfl rfl ?_
          refine v_aload_n fx 1 dX8_encode_189 rfl rfl ?_
          refine v_get fx 6 8 inX8 k1004 dX8_encode_190 rfl rfl (by decide) rfl rfl rfl ?_
          refine v_iconst fx dX8_encode_193 rfl ?_
          refine v_icmp_ne fx 202 dX8_encode_194 (by decide) rfl (by omega) (by omega) (fun h0 => absurd h0 (by omega)) (fun h_61 => ?_)
          refine v_aload_n fx 1 dX8_encode_197 rfl rfl ?_
          refine v_iconst fx dX8_encode_198 rfl ?_
          refine v_callV (As := [.int (iI 1)]) (rest := []) fx [6, 7] [0, 1, 2, 3, 4, 5] [(h0, ob 8 [.ref xa, .ref xb, .ref xc, .ref xd, .ref xe, .ref xf, .ref xg, .int (iI 0), .int (iI 1), .int (iI vw), .ref xm, .ref xv, .int (iI vg), .ref xw, .int (iI b2_57), .int (iI 1), .ref xq, .int (iI ve), .int (iI vf), .int (iI vu), .int (iI vl), .ref xr, .ref xh, .ref xo, .ref xp, .int (iI vr), .int (iI va), .int (iI vt), .int (iI vm), .int (iI vd), .int (iI vx)]), (xw, aI g 72000 f2_58)] [(xv, aZ g 72000 fg), (xa, aI g 64 (lfT mW 64)), (xb, aI g 64 (lfT mB 64)), (xc, aI g 27 (lfT mWM 27)), (xd, aI g 27 (lfT mBM 27)), (xe, aI g 13 (lfT mBO 13))] 1 0 (c_X8_bit_e l g h0 xa xb xc xd xe xf xg xm xv xw xq xr xh xo xp 0 1 vw vg b2_57 1 ve vf vu vl vr va vt vm vd vx f2_58 1 ((((P) ++ codeB 4097) ++ [decide ((1 : Int) = 1)]) ++ codeB 4097) (by first | omega | decide | assumption) (by first | omega | decide | assumption) (by first | omega | decide | assumption) (by assumption)) dX8_encode_199 k1110 k1112 k23 k57 k1113 ykX8_bit rfl rfl rfl rfl rfl rfl rfl rfl (nl rfl) ⟨nl rfl, nl rfl⟩ ⟨(nl rfl), (nl rfl)⟩ rfl (fun v9 w9 hu => ?_)
          obtain ⟨f2_62, rfl, rfl, u_63⟩ := hu
          refine v_is (wn := [(xv, aZ g 72000 fg), (xa, aI g 64 (lfT mW 64)), (xb, aI g 64 (lfT mB 64)), (xc, aI g 27 (lfT mWM 27)), (xd, aI g 27 (lfT mBM 27)), (xe, aI g 13 (lfT mBO 13)), (h0, ob 8 [.ref xa, .ref xb, .ref xc, .ref xd, .ref xe, .ref xf, .ref xg, .int (iI 0), .int (iI 1), .int (iI vw), .ref xm, .ref xv, .int (iI vg), .ref xw, .int (iI (b2_57 + 1)), .int (iI 1), .ref xq, .int (iI ve), .int (iI vf), .int (iI vu), .int (iI vl), .ref xr, .ref xh, .ref xo, .ref xp, .int (iI vr), .int (iI va), .int (iI vt), .int (iI vm), .int (iI vd), .int (iI vx)]), (xw, aI g 72000 f2_62)]) (cn := 0) (sn := 0) (sn2 := []) rfl rfl rfl rfl ?_
          refine v_iinc fx 0 (2) [(1, .int (iI 2)), (0, .ref h0)] dX8_encode_202 rfl (by omega) (by decide) rfl rfl ?_
          refine v_goto fx 167 dX8_encode_205 (by decide) ?_
          refine v_iload_n fx 0 dX8_encode_167 rfl rfl ?_
          refine v_aload_n fx 1 dX8_encode_168 rfl rfl ?_
          refine v_get fx 6 8 inX8 k1004 dX8_encode_169 rfl rfl (by decide) rfl rfl rfl ?_
          refine v_iconst fx dX8_encode_172 rfl ?_
          refine v_icmp_ge fx 181 dX8_encode_173 (by decide) rfl (by omega) (by omega) (fun h0 => absurd h0 (by omega)) (fun h_64 => ?_)
          refine v_bipush fx dX8_encode_176 (by decide +kernel) rfl ?_
          refine v_goto fx 182 dX8_encode_178 (by decide) ?_
          refine v_icmp_ge fx 208 dX8_encode_182 (by decide) rfl (by omega) (by omega) (fun h0 => absurd h0 (by omega)) (fun h_65 => ?_)
          refine v_aload_n fx 1 dX8_encode_185 rfl rfl ?_
          refine v_callV (As := []) (rest := []) fx [6, 7] [0, 1, 2, 3, 4, 5] [(h0, ob 8 [.ref xa, .ref xb, .ref xc, .ref xd, .ref xe, .ref xf, .ref xg, .int (iI 0), .int (iI 1), .int (iI vw), .ref xm, .ref xv, .int (iI vg), .ref xw, .int (iI (b2_57 + 1)), .int (iI 1), .ref xq, .int (iI ve), .int (iI vf), .int (iI vu), .int (iI vl), .ref xr, .ref xh, .ref xo, .ref xp, .int (iI vr), .int (iI va), .int (iI vt), .int (iI vm), .int (iI vd), .int (iI vx)]), (xw, aI g 72000 f2_62)] [(xv, aZ g 72000 fg), (xa, aI g 64 (lfT mW 64)), (xb, aI g 64 (lfT mB 64)), (xc, aI g 27 (lfT mWM 27)), (xd, aI g 27 (lfT mBM 27)), (xe, aI g 13 (lfT mBO 13))] 0 0 (c_X8_mark_e l g h0 xa xb xc xd xe xf xg xm xv xw xq xr xh xo xp 0 1 vw vg (b2_57 + 1) 1 ve vf vu vl vr va vt vm vd vx f2_62 (((((P) ++ codeB 4097) ++ [decide ((1 : Int) = 1)]) ++ codeB 4097) ++ [decide ((1 : Int) = 1)]) (by first | omega | decide | assumption) (by first | omega | decide | assumption) (by assumption)) dX8_encode_186 k1102 k1104 k21 k57 k1105 ykX8_mark rfl rfl rfl rfl rfl rfl rfl rfl (nl rfl) ⟨nl rfl, nl rfl⟩ ⟨(nl rfl), (nl rfl)⟩ rfl (fun v9 w9 hu => ?_)
          obtain ⟨b2_66, f2_67, rfl, rfl, u_68, u_69⟩ := hu
          refine v_is (wn := [(xv, aZ g 72000 fg), (xa, aI g 64 (lfT mW 64)), (xb, aI g 64 (lfT mB 64)), (xc, aI g 27 (lfT mWM 27)), (xd, aI g 27 (lfT mBM 27)), (xe, aI g 13 (lfT mBO 13)), (h0, ob 8 [.ref xa, .ref xb, .ref xc, .ref xd, .ref xe, .ref xf, .ref xg, .int (iI 0), .int (iI 1), .int (iI vw), .ref xm, .ref xv, .int (iI vg), .ref xw, .int (iI b2_66), .int (iI 1), .ref xq, .int (iI ve), .int (iI vf), .int (iI vu), .int (iI vl), .ref xr, .ref xh, .ref xo, .ref xp, .int (iI vr), .int (iI va), .int (iI vt), .int (iI vm), .int (iI vd), .int (iI vx)]), (xw, aI g 72000 f2_67)]) (cn := 0) (sn := 0) (sn2 := []) rfl rfl rfl rfl ?_
          refine v_aload_n fx 1 dX8_encode_189 rfl rfl ?_
          refine v_get fx 6 8 inX8 k1004 dX8_encode_190 rfl rfl (by decide) rfl rfl rfl ?_
          refine v_iconst fx dX8_encode_193 rfl ?_
          refine v_icmp_ne fx 202 dX8_encode_194 (by decide) rfl (by omega) (by omega) (fun h0 => absurd h0 (by omega)) (fun h_70 => ?_)
          refine v_aload_n fx 1 dX8_encode_197 rfl rfl ?_
          refine v_iconst fx dX8_encode_198 rfl ?_
          refine v_callV (As := [.int (iI 1)]) (rest := []) fx [6, 7] [0, 1, 2, 3, 4, 5] [(h0, ob 8 [.ref xa, .ref xb, .ref xc, .ref xd, .ref xe, .ref xf, .ref xg, .int (iI 0), .int (iI 1), .int (iI vw), .ref xm, .ref xv, .int (iI vg), .ref xw, .int (iI b2_66), .int (iI 1), .ref xq, .int (iI ve), .int (iI vf), .int (iI vu), .int (iI vl), .ref xr, .ref xh, .ref xo, .ref xp, .int (iI vr), .int (iI va), .int (iI vt), .int (iI vm), .int (iI vd), .int (iI vx)]), (xw, aI g 72000 f2_67)] [(xv, aZ g 72000 fg), (xa, aI g 64 (lfT mW 64)), (xb, aI g 64 (lfT mB 64)), (xc, aI g 27 (lfT mWM 27)), (xd, aI g 27 (lfT mBM 27)), (xe, aI g 13 (lfT mBO 13))] 1 0 (c_X8_bit_e l g h0 xa xb xc xd xe xf xg xm xv xw xq xr xh xo xp 0 1 vw vg b2_66 1 ve vf vu vl vr va vt vm vd vx f2_67 1 ((((((P) ++ codeB 4097) ++ [decide ((1 : Int) = 1)]) ++ codeB 4097) ++ [decide ((1 : Int) = 1)]) ++ codeB 4097) (by first | omega | decide | assumption) (by first | omega | decide | assumption) (by first | omega | decide | assumption) (by assumption)) dX8_encode_199 k1110 k1112 k23 k57 k1113 ykX8_bit rfl rfl rfl rfl rfl rfl rfl rfl (nl rfl) ⟨nl rfl, nl rfl⟩ ⟨(nl rfl), (nl rfl)⟩ rfl (fun v9 w9 hu => ?_)
          obtain ⟨f2_71, rfl, rfl, u_72⟩ := hu
          refine v_is (wn := [(xv, aZ g 72000 fg), (xa, aI g 64 (lfT mW 64)), (xb, aI g 64 (lfT mB 64)), (xc, aI g 27 (lfT mWM 27)), (xd, aI g 27 (lfT mBM 27)), (xe, aI g 13 (lfT mBO 13)), (h0, ob 8 [.ref xa, .ref xb, .ref xc, .ref xd, .ref xe, .ref xf, .ref xg, .int (iI 0), .int (iI 1), .int (iI vw), .ref xm, .ref xv, .int (iI vg), .ref xw, .int (iI (b2_66 + 1)), .int (iI 1), .ref xq, .int (iI ve), .int (iI vf), .int (iI vu), .int (iI vl), .ref xr, .ref xh, .ref xo, .ref xp, .int (iI vr), .int (iI va), .int (iI vt), .int (iI vm), .int (iI vd), .int (iI vx)]), (xw, aI g 72000 f2_71)]) (cn := 0) (sn := 0) (sn2 := []) rfl rfl rfl rfl ?_
          refine v_iinc fx 0 (3) [(1, .int (iI 3)), (0, .ref h0)] dX8_encode_202 rfl (by omega) (by decide) rfl rfl ?_
          refine v_goto fx 167 dX8_encode_205 (by decide) ?_
          refine v_iload_n fx 0 dX8_encode_167 rfl rfl ?_
          refine v_aload_n fx 1 dX8_encode_168 rfl rfl ?_
          refine v_get fx 6 8 inX8 k1004 dX8_encode_169 rfl rfl (by decide) rfl rfl rfl ?_
          refine v_iconst fx dX8_encode_172 rfl ?_
          refine v_icmp_ge fx 181 dX8_encode_173 (by decide) rfl (by omega) (by omega) (fun h0 => absurd h0 (by omega)) (fun h_73 => ?_)
          refine v_bipush fx dX8_encode_176 (by decide +kernel) rfl ?_
          refine v_goto fx 182 dX8_encode_178 (by decide) ?_
          refine v_icmp_ge fx 208 dX8_encode_182 (by decide) rfl (by omega) (by omega) (fun h0 => absurd h0 (by omega)) (fun h_74 => ?_)
          refine v_aload_n fx 1 dX8_encode_185 rfl rfl ?_
          refine v_callV (As := []) (rest := []) fx [6, 7] [0, 1, 2, 3, 4, 5] [(h0, ob 8 [.ref xa, .ref xb, .ref xc, .ref xd, .ref xe, .ref xf, .ref xg, .int (iI 0), .int (iI 1), .int (iI vw), .ref xm, .ref xv, .int (iI vg), .ref xw, .int (iI (b2_66 + 1)), .int (iI 1), .ref xq, .int (iI ve), .int (iI vf), .int (iI vu), .int (iI vl), .ref xr, .ref xh, .ref xo, .ref xp, .int (iI vr), .int (iI va), .int (iI vt), .int (iI vm), .int (iI vd), .int (iI vx)]), (xw, aI g 72000 f2_71)] [(xv, aZ g 72000 fg), (xa, aI g 64 (lfT mW 64)), (xb, aI g 64 (lfT mB 64)), (xc, aI g 27 (lfT mWM 27)), (xd, aI g 27 (lfT mBM 27)), (xe, aI g 13 (lfT mBO 13))] 0 0 (c_X8_mark_e l g h0 xa xb xc xd xe xf xg xm xv xw xq xr xh xo xp 0 1 vw vg (b2_66 + 1) 1 ve vf vu vl vr va vt vm vd vx f2_71 (((((((P) ++ codeB 4097) ++ [decide ((1 : Int) = 1)]) ++ codeB 4097) ++ [decide ((1 : Int) = 1)]) ++ codeB 4097) ++ [decide ((1 : Int) = 1)]) (by first | omega | decide | assumption) (by first | omega | decide | assumption) (by assumption)) dX8_encode_186 k1102 k1104 k21 k57 k1105 ykX8_mark rfl rfl rfl rfl rfl rfl rfl rfl (nl rfl) ⟨nl rfl, nl rfl⟩ ⟨(nl rfl), (nl rfl)⟩ rfl (fun v9 w9 hu => ?_)
          obtain ⟨b2_75, f2_76, rfl, rfl, u_77, u_78⟩ := hu
          refine v_is (wn := [(xv, aZ g 72000 fg), (xa, aI g 64 (lfT mW 64)), (xb, aI g 64 (lfT mB 64)), (xc, aI g 27 (lfT mWM 27)), (xd, aI g 27 (lfT mBM 27)), (xe, aI g 13 (lfT mBO 13)), (h0, ob 8 [.ref xa, .ref xb, .ref xc, .ref xd, .ref xe, .ref xf, .ref xg, .int (iI 0), .int (iI 1), .int (iI vw), .ref xm, .ref xv, .int (iI vg), .ref xw, .int (iI b2_75), .int (iI 1), .ref xq, .int (iI ve), .int (iI vf), .int (iI vu), .int (iI vl), .ref xr, .ref xh, .ref xo, .ref xp, .int (iI vr), .int (iI va), .int (iI vt), .int (iI vm), .int (iI vd), .int (iI vx)]), (xw, aI g 72000 f2_76)]) (cn := 0) (sn := 0) (sn2 := []) rfl rfl rfl rfl ?_
          refine v_aload_n fx 1 dX8_encode_189 rfl rfl ?_
          refine v_get fx 6 8 inX8 k1004 dX8_encode_190 rfl rfl (by decide) rfl rfl rfl ?_
          refine v_iconst fx dX8_encode_193 rfl ?_
          refine v_icmp_ne fx 202 dX8_encode_194 (by decide) rfl (by omega) (by omega) (fun h0 => absurd h0 (by omega)) (fun h_79 => ?_)
          refine v_aload_n fx 1 dX8_encode_197 rfl rfl ?_
          refine v_iconst fx dX8_encode_198 rfl ?_
          refine v_callV (As := [.int (iI 1)]) (rest := []) fx [6, 7] [0, 1, 2, 3, 4, 5] [(h0, ob 8 [.ref xa, .ref xb, .ref xc, .ref xd, .ref xe, .ref xf, .ref xg, .int (iI 0), .int (iI 1), .int (iI vw), .ref xm, .ref xv, .int (iI vg), .ref xw, .int (iI b2_75), .int (iI 1), .ref xq, .int (iI ve), .int (iI vf), .int (iI vu), .int (iI vl), .ref xr, .ref xh, .ref xo, .ref xp, .int (iI vr), .int (iI va), .int (iI vt), .int (iI vm), .int (iI vd), .int (iI vx)]), (xw, aI g 72000 f2_76)] [(xv, aZ g 72000 fg), (xa, aI g 64 (lfT mW 64)), (xb, aI g 64 (lfT mB 64)), (xc, aI g 27 (lfT mWM 27)), (xd, aI g 27 (lfT mBM 27)), (xe, aI g 13 (lfT mBO 13))] 1 0 (c_X8_bit_e l g h0 xa xb xc xd xe xf xg xm xv xw xq xr xh xo xp 0 1 vw vg b2_75 1 ve vf vu vl vr va vt vm vd vx f2_76 1 ((((((((P) ++ codeB 4097) ++ [decide ((1 : Int) = 1)]) ++ codeB 4097) ++ [decide ((1 : Int) = 1)]) ++ codeB 4097) ++ [decide ((1 : Int) = 1)]) ++ codeB 4097) (by first | omega | decide | assumption) (by first | omega | decide | assumption) (by first | omega | decide | assumption) (by assumption)) dX8_encode_199 k1110 k1112 k23 k57 k1113 ykX8_bit rfl rfl rfl rfl rfl rfl rfl rfl (nl rfl) ⟨nl rfl, nl rfl⟩ ⟨(nl rfl), (nl rfl)⟩ rfl (fun v9 w9 hu => ?_)
          obtain ⟨f2_80, rfl, rfl, u_81⟩ := hu
          refine v_is (wn := [(xv, aZ g 72000 fg), (xa, aI g 64 (lfT mW 64)), (xb, aI g 64 (lfT mB 64)), (xc, aI g 27 (lfT mWM 27)), (xd, aI g 27 (lfT mBM 27)), (xe, aI g 13 (lfT mBO 13)), (h0, ob 8 [.ref xa, .ref xb, .ref xc, .ref xd, .ref xe, .ref xf, .ref xg, .int (iI 0), .int (iI 1), .int (iI vw), .ref xm, .ref xv, .int (iI vg), .ref xw, .int (iI (b2_75 + 1)), .int (iI 1), .ref xq, .int (iI ve), .int (iI vf), .int (iI vu), .int (iI vl), .ref xr, .ref xh, .ref xo, .ref xp, .int (iI vr), .int (iI va), .int (iI vt), .int (iI vm), .int (iI vd), .int (iI vx)]), (xw, aI g 72000 f2_80)]) (cn := 0) (sn := 0) (sn2 := []) rfl rfl rfl rfl ?_
          refine v_iinc fx 0 (4) [(1, .int (iI 4)), (0, .ref h0)] dX8_encode_202 rfl (by omega) (by decide) rfl rfl ?_
          refine v_goto fx 167 dX8_encode_205 (by decide) ?_
          refine v_iload_n fx 0 dX8_encode_167 rfl rfl ?_
          refine v_aload_n fx 1 dX8_encode_168 rfl rfl ?_
          refine v_get fx 6 8 inX8 k1004 dX8_encode_169 rfl rfl (by decide) rfl rfl rfl ?_
          refine v_iconst fx dX8_encode_172 rfl ?_
          refine v_icmp_ge fx 181 dX8_encode_173 (by decide) rfl (by omega) (by omega) (fun h0 => absurd h0 (by omega)) (fun h_82 => ?_)
          refine v_bipush fx dX8_encode_176 (by decide +kernel) rfl ?_
          refine v_goto fx 182 dX8_encode_178 (by decide) ?_
          refine v_icmp_ge fx 208 dX8_encode_182 (by decide) rfl (by omega) (by omega) (fun h0 => absurd h0 (by omega)) (fun h_83 => ?_)
          refine v_aload_n fx 1 dX8_encode_185 rfl rfl ?_
          refine v_callV (As := []) (rest := []) fx [6, 7] [0, 1, 2, 3, 4, 5] [(h0, ob 8 [.ref xa, .ref xb, .ref xc, .ref xd, .ref xe, .ref xf, .ref xg, .int (iI 0), .int (iI 1), .int (iI vw), .ref xm, .ref xv, .int (iI vg), .ref xw, .int (iI (b2_75 + 1)), .int (iI 1), .ref xq, .int (iI ve), .int (iI vf), .int (iI vu), .int (iI vl), .ref xr, .ref xh, .ref xo, .ref xp, .int (iI vr), .int (iI va), .int (iI vt), .int (iI vm), .int (iI vd), .int (iI vx)]), (xw, aI g 72000 f2_80)] [(xv, aZ g 72000 fg), (xa, aI g 64 (lfT mW 64)), (xb, aI g 64 (lfT mB 64)), (xc, aI g 27 (lfT mWM 27)), (xd, aI g 27 (lfT mBM 27)), (xe, aI g 13 (lfT mBO 13))] 0 0 (c_X8_mark_e l g h0 xa xb xc xd xe xf xg xm xv xw xq xr xh xo xp 0 1 vw vg (b2_75 + 1) 1 ve vf vu vl vr va vt vm vd vx f2_80 (((((((((P) ++ codeB 4097) ++ [decide ((1 : Int) = 1)]) ++ codeB 4097) ++ [decide ((1 : Int) = 1)]) ++ codeB 4097) ++ [decide ((1 : Int) = 1)]) ++ codeB 4097) ++ [decide ((1 : Int) = 1)]) (by first | omega | decide | assumption) (by first | omega | decide | assumption) (by assumption)) dX8_encode_186 k1102 k1104 k21 k57 k1105 ykX8_mark rfl rfl rfl rfl rfl rfl rfl rfl (nl rfl) ⟨nl rfl, nl rfl⟩ ⟨(nl rfl), (nl rfl)⟩ rfl (fun v9 w9 hu => ?_)
          obtain ⟨b2_84, f2_85, rfl, rfl, u_86, u_87⟩ := hu
          refine v_is (wn := [(xv, aZ g 72000 fg), (xa, aI g 64 (lfT mW 64)), (xb, aI g 64 (lfT mB 64)), (xc, aI g 27 (lfT mWM 27)), (xd, aI g 27 (lfT mBM 27)), (xe, aI g 13 (lfT mBO 13)), (h0, ob 8 [.ref xa, .ref xb, .ref xc, .ref xd, .ref xe, .ref xf, .ref xg, .int (iI 0), .int (iI 1), .int (iI vw), .ref xm, .ref xv, .int (iI vg), .ref xw, .int (iI b2_84), .int (iI 1), .ref xq, .int (iI ve), .int (iI vf), .int (iI vu), .int (iI vl), .ref xr, .ref xh, .ref xo, .ref xp, .int (iI vr), .int (iI va), .int (iI vt), .int (iI vm), .int (iI vd), .int (iI vx)]), (xw, aI g 72000 f2_85)]) (cn := 0) (sn := 0) (sn2 := []) rfl rfl rfl rfl ?_
          refine v_aload_n fx 1 dX8_encode_189 rfl rfl ?_
          refine v_get fx 6 8 inX8 k1004 dX8_encode_190 rfl rfl (by decide) rfl rfl rfl ?_
          refine v_iconst fx dX8_encode_193 rfl ?_
          refine v_icmp_ne fx 202 dX8_encode_194 (by decide) rfl (by omega) (by omega) (fun h0 => absurd h0 (by omega)) (fun h_88 => ?_)
          refine v_aload_n fx 1 dX8_encode_197 rfl rfl ?_
          refine v_iconst fx dX8_encode_198 rfl ?_
          refine v_callV (As := [.int (iI 1)]) (rest := []) fx [6, 7] [0, 1, 2, 3, 4, 5] [(h0, ob 8 [.ref xa, .ref xb, .ref xc, .ref xd, .ref xe, .ref xf, .ref xg, .int (iI 0), .int (iI 1), .int (iI vw), .ref xm, .ref xv, .int (iI vg), .ref xw, .int (iI b2_84), .int (iI 1), .ref xq, .int (iI ve), .int (iI vf), .int (iI vu), .int (iI vl), .ref xr, .ref xh, .ref xo, .ref xp, .int (iI vr), .int (iI va), .int (iI vt), .int (iI vm), .int (iI vd), .int (iI vx)]), (xw, aI g 72000 f2_85)] [(xv, aZ g 72000 fg), (xa, aI g 64 (lfT mW 64)), (xb, aI g 64 (lfT mB 64)), (xc, aI g 27 (lfT mWM 27)), (xd, aI g 27 (lfT mBM 27)), (xe, aI g 13 (lfT mBO 13))] 1 0 (c_X8_bit_e l g h0 xa xb xc xd xe xf xg xm xv xw xq xr xh xo xp 0 1 vw vg b2_84 1 ve vf vu vl vr va vt vm vd vx f2_85 1 ((((((((((P) ++ codeB 4097) ++ [decide ((1 : Int) = 1)]) ++ codeB 4097) ++ [decide ((1 : Int) = 1)]) ++ codeB 4097) ++ [decide ((1 : Int) = 1)]) ++ codeB 4097) ++ [decide ((1 : Int) = 1)]) ++ codeB 4097) (by first | omega | decide | assumption) (by first | omega | decide | assumption) (by first | omega | decide | assumption) (by assumption)) dX8_encode_199 k1110 k1112 k23 k57 k1113 ykX8_bit rfl rfl rfl rfl rfl rfl rfl rfl (nl rfl) ⟨nl rfl, nl rfl⟩ ⟨(nl rfl), (nl rfl)⟩ rfl (fun v9 w9 hu => ?_)
          obtain ⟨f2_89, rfl, rfl, u_90⟩ := hu
          refine v_is (wn := [(xv, aZ g 72000 fg), (xa, aI g 64 (lfT mW 64)), (xb, aI g 64 (lfT mB 64)), (xc, aI g 27 (lfT mWM 27)), (xd, aI g 27 (lfT mBM 27)), (xe, aI g 13 (lfT mBO 13)), (h0, ob 8 [.ref xa, .ref xb, .ref xc, .ref xd, .ref xe, .ref xf, .ref xg, .int (iI 0), .int (iI 1), .int (iI vw), .ref xm, .ref xv, .int (iI vg), .ref xw, .int (iI (b2_84 + 1)), .int (iI 1), .ref xq, .int (iI ve), .int (iI vf), .int (iI vu), .int (iI vl), .ref xr, .ref xh, .ref xo, .ref xp, .int (iI vr), .int (iI va), .int (iI vt), .int (iI vm), .int (iI vd), .int (iI vx)]), (xw, aI g 72000 f2_89)]) (cn := 0) (sn := 0) (sn2 := []) rfl rfl rfl rfl ?_
          refine v_iinc fx 0 (5) [(1, .int (iI 5)), (0, .ref h0)] dX8_encode_202 rfl (by omega) (by decide) rfl rfl ?_
          refine v_goto fx 167 dX8_encode_205 (by decide) ?_
          refine v_iload_n fx 0 dX8_encode_167 rfl rfl ?_
          refine v_aload_n fx 1 dX8_encode_168 rfl rfl ?_
          refine v_get fx 6 8 inX8 k1004 dX8_encode_169 rfl rfl (by decide) rfl rfl rfl ?_
          refine v_iconst fx dX8_encode_172 rfl ?_
          refine v_icmp_ge fx 181 dX8_encode_173 (by decide) rfl (by omega) (by omega) (fun h0 => absurd h0 (by omega)) (fun h_91 => ?_)
          refine v_bipush fx dX8_encode_176 (by decide +kernel) rfl ?_
          refine v_goto fx 182 dX8_encode_178 (by decide) ?_
          refine v_icmp_ge fx 208 dX8_encode_182 (by decide) rfl (by omega) (by omega) (fun h0 => absurd h0 (by omega)) (fun h_92 => ?_)
          refine v_aload_n fx 1 dX8_encode_185 rfl rfl ?_
          refine v_callV (As := []) (rest := []) fx [6, 7] [0, 1, 2, 3, 4, 5] [(h0, ob 8 [.ref xa, .ref xb, .ref xc, .ref xd, .ref xe, .ref xf, .ref xg, .int (iI 0), .int (iI 1), .int (iI vw), .ref xm, .ref xv, .int (iI vg), .ref xw, .int (iI (b2_84 + 1)), .int (iI 1), .ref xq, .int (iI ve), .int (iI vf), .int (iI vu), .int (iI vl), .ref xr, .ref xh, .ref xo, .ref xp, .int (iI vr), .int (iI va), .int (iI vt), .int (iI vm), .int (iI vd), .int (iI vx)]), (xw, aI g 72000 f2_89)] [(xv, aZ g 72000 fg), (xa, aI g 64 (lfT mW 64)), (xb, aI g 64 (lfT mB 64)), (xc, aI g 27 (lfT mWM 27)), (xd, aI g 27 (lfT mBM 27)), (xe, aI g 13 (lfT mBO 13))] 0 0 (c_X8_mark_e l g h0 xa xb xc xd xe xf xg xm xv xw xq xr xh xo xp 0 1 vw vg (b2_84 + 1) 1 ve vf vu vl vr va vt vm vd vx f2_89 (((((((((((P) ++ codeB 4097) ++ [decide ((1 : Int) = 1)]) ++ codeB 4097) ++ [decide ((1 : Int) = 1)]) ++ codeB 4097) ++ [decide ((1 : Int) = 1)]) ++ codeB 4097) ++ [decide ((1 : Int) = 1)]) ++ codeB 4097) ++ [decide ((1 : Int) = 1)]) (by first | omega | decide | assumption) (by first | omega | decide | assumption) (by assumption)) dX8_encode_186 k1102 k1104 k21 k57 k1105 ykX8_mark rfl rfl rfl rfl rfl rfl rfl rfl (nl rfl) ⟨nl rfl, nl rfl⟩ ⟨(nl rfl), (nl rfl)⟩ rfl (fun v9 w9 hu => ?_)
          obtain ⟨b2_93, f2_94, rfl, rfl, u_95, u_96⟩ := hu
          refine v_is (wn := [(xv, aZ g 72000 fg), (xa, aI g 64 (lfT mW 64)), (xb, aI g 64 (lfT mB 64)), (xc, aI g 27 (lfT mWM 27)), (xd, aI g 27 (lfT mBM 27)), (xe, aI g 13 (lfT mBO 13)), (h0, ob 8 [.ref xa, .ref xb, .ref xc, .ref xd, .ref xe, .ref xf, .ref xg, .int (iI 0), .int (iI 1), .int (iI vw), .ref xm, .ref xv, .int (iI vg), .ref xw, .int (iI b2_93), .int (iI 1), .ref xq, .int (iI ve), .int (iI vf), .int (iI vu), .int (iI vl), .ref xr, .ref xh, .ref xo, .ref xp, .int (iI vr), .int (iI va), .int (iI vt), .int (iI vm), .int (iI vd), .int (iI vx)]), (xw, aI g 72000 f2_94)]) (cn := 0) (sn := 0) (sn2 := []) rfl rfl rfl rfl ?_
          refine v_aload_n fx 1 dX8_encode_189 rfl rfl ?_
          refine v_get fx 6 8 inX8 k1004 dX8_encode_190 rfl rfl (by decide) rfl rfl rfl ?_
          refine v_iconst fx dX8_encode_193 rfl ?_
          refine v_icmp_ne fx 202 dX8_encode_194 (by decide) rfl (by omega) (by omega) (fun h0 => absurd h0 (by omega)) (fun h_97 => ?_)
          refine v_aload_n fx 1 dX8_encode_197 rfl rfl ?_
          refine v_iconst fx dX8_encode_198 rfl ?_
          refine v_callV (As := [.int (iI 1)]) (rest := []) fx [6, 7] [0, 1, 2, 3, 4, 5] [(h0, ob 8 [.ref xa, .ref xb, .ref xc, .ref xd, .ref xe, .ref xf, .ref xg, .int (iI 0), .int (iI 1), .int (iI vw), .ref xm, .ref xv, .int (iI vg), .ref xw, .int (iI b2_93), .int (iI 1), .ref xq, .int (iI ve), .int (iI vf), .int (iI vu), .int (iI vl), .ref xr, .ref xh, .ref xo, .ref xp, .int (iI vr), .int (iI va), .int (iI vt), .int (iI vm), .int (iI vd), .int (iI vx)]), (xw, aI g 72000 f2_94)] [(xv, aZ g 72000 fg), (xa, aI g 64 (lfT mW 64)), (xb, aI g 64 (lfT mB 64)), (xc, aI g 27 (lfT mWM 27)), (xd, aI g 27 (lfT mBM 27)), (xe, aI g 13 (lfT mBO 13))] 1 0 (c_X8_bit_e l g h0 xa xb xc xd xe xf xg xm xv xw xq xr xh xo xp 0 1 vw vg b2_93 1 ve vf vu vl vr va vt vm vd vx f2_94 1 ((((((((((((P) ++ codeB 4097) ++ [decide ((1 : Int) = 1)]) ++ codeB 4097) ++ [decide ((1 : Int) = 1)]) ++ codeB 4097) ++ [decide ((1 : Int) = 1)]) ++ codeB 4097) ++ [decide ((1 : Int) = 1)]) ++ codeB 4097) ++ [decide ((1 : Int) = 1)]) ++ codeB 4097) (by first | omega | decide | assumption) (by first | omega | decide | assumption) (by first | omega | decide | assumption) (by assumption)) dX8_encode_199 k1110 k1112 k23 k57 k1113 ykX8_bit rfl rfl rfl rfl rfl rfl rfl rfl (nl rfl) ⟨nl rfl, nl rfl⟩ ⟨(nl rfl), (nl rfl)⟩ rfl (fun v9 w9 hu => ?_)
          obtain ⟨f2_98, rfl, rfl, u_99⟩ := hu
          refine v_is (wn := [(xv, aZ g 72000 fg), (xa, aI g 64 (lfT mW 64)), (xb, aI g 64 (lfT mB 64)), (xc, aI g 27 (lfT mWM 27)), (xd, aI g 27 (lfT mBM 27)), (xe, aI g 13 (lfT mBO 13)), (h0, ob 8 [.ref xa, .ref xb, .ref xc, .ref xd, .ref xe, .ref xf, .ref xg, .int (iI 0), .int (iI 1), .int (iI vw), .ref xm, .ref xv, .int (iI vg), .ref xw, .int (iI (b2_93 + 1)), .int (iI 1), .ref xq, .int (iI ve), .int (iI vf), .int (iI vu), .int (iI vl), .ref xr, .ref xh, .ref xo, .ref xp, .int (iI vr), .int (iI va), .int (iI vt), .int (iI vm), .int (iI vd), .int (iI vx)]), (xw, aI g 72000 f2_98)]) (cn := 0) (sn := 0) (sn2 := []) rfl rfl rfl rfl ?_
          refine v_iinc fx 0 (6) [(1, .int (iI 6)), (0, .ref h0)] dX8_encode_202 rfl (by omega) (by decide) rfl rfl ?_
          refine v_goto fx 167 dX8_encode_205 (by decide) ?_
          refine v_iload_n fx 0 dX8_encode_167 rfl rfl ?_
          refine v_aload_n fx 1 dX8_encode_168 rfl rfl ?_
          refine v_get fx 6 8 inX8 k1004 dX8_encode_169 rfl rfl (by decide) rfl rfl rfl ?_
          refine v_iconst fx dX8_encode_172 rfl ?_
          refine v_icmp_ge fx 181 dX8_encode_173 (by decide) rfl (by omega) (by omega) (fun h0 => absurd h0 (by omega)) (fun h_100 => ?_)
          refine v_bipush fx dX8_encode_176 (by decide +kernel) rfl ?_
          refine v_goto fx 182 dX8_encode_178 (by decide) ?_
          refine v_icmp_ge fx 208 dX8_encode_182 (by decide) rfl (by omega) (by omega) (fun h_101 => ?_) (fun h0 => absurd h0 (by omega))
          refine v_aload_n fx 1 dX8_encode_208 rfl rfl ?_
          refine v_get fx 6 14 inX8 k1010 dX8_encode_209 rfl rfl (by decide) rfl rfl rfl ?_
          refine v_bipush fx dX8_encode_212 (by decide +kernel) rfl ?_
          refine v_iadd fx ((b2_93 + 1) + 7) dX8_encode_214 (by rfl) rfl ?_
          refine v_bipush fx dX8_encode_215 (by decide +kernel) rfl ?_
          refine v_idiv fx (iI (((b2_93 + 1) + 7) / 8)) dX8_encode_217 (by decide) (iI_div (by omega) 8 (by decide) (by decide)) rfl ?_
          exact v_iret fx [(h0, ob 8 [.ref xa, .ref xb, .ref xc, .ref xd, .ref xe, .ref xf, .ref xg, .int (iI 0), .int (iI 1), .int (iI vw), .ref xm, .ref xv, .int (iI vg), .ref xw, .int (iI (b2_93 + 1)), .int (iI 1), .ref xq, .int (iI ve), .int (iI vf), .int (iI vu), .int (iI vl), .ref xr, .ref xh, .ref xo, .ref xp, .int (iI vr), .int (iI va), .int (iI vt), .int (iI vm), .int (iI vd), .int (iI vx)]), (xw, aI g 72000 f2_98), (xv, aZ g 72000 fg), (xa, aI g 64 (lfT mW 64)), (xb, aI g 64 (lfT mB 64)), (xc, aI g 27 (lfT mWM 27)), (xd, aI g 27 (lfT mBM 27)), (xe, aI g 13 (lfT mBO 13))] [6, 7, 0, 1, 2, 3, 4, 5] hr dX8_encode_218 rfl rfl (nl rfl) (nl rfl) ⟨(((b2_93 + 1) + 7) / 8), (b2_93 + 1), f2_98, (((((((((((((P) ++ codeB 4097) ++ [decide ((1 : Int) = 1)]) ++ codeB 4097) ++ [decide ((1 : Int) = 1)]) ++ codeB 4097) ++ [decide ((1 : Int) = 1)]) ++ codeB 4097) ++ [decide ((1 : Int) = 1)]) ++ codeB 4097) ++ [decide ((1 : Int) = 1)]) ++ codeB 4097) ++ [decide ((1 : Int) = 1)]), rfl, rfl, (by first | omega | rfl | assumption), (by first | omega | rfl | assumption), (by assumption), (by first | exact ⟨P, by rw [show vg.toNat = y.toNat by omega]; exact hi17_3, end_R0⟩ | exact ⟨P, by rw [show vg.toNat = y.toNat by omega]; exact hi17_3, end_R1⟩ | exact ⟨P, by rw [show vg.toNat = y.toNat by omega]; exact hi17_3, end_2⟩)⟩
        ·
          refine v_iconst fx dX8_encode_165 rfl ?_
          refine v_istore_n fx [(1, .int (iI 0)), (0, .ref h0)] dX8_encode_166 (by decide) rfl rfl ?_
          refine v_iload_n fx 0 dX8_encode_167 rfl rfl ?_
          refine v_aload_n fx 1 dX8_encode_168 rfl rfl ?_
          refine v_get fx 0 8 inX8 k1004 dX8_encode_169 rfl rfl (by decide) rfl rfl rfl ?_
          refine v_iconst fx dX8_encode_172 rfl ?_
          refine v_icmp_ge fx 181 dX8_encode_173 (by decide) rfl (by omega) (by omega) (fun h_102 => ?_) (fun h0 => absurd h0 (by omega))
          refine v_iconst fx dX8_encode_181 rfl ?_
          refine v_icmp_ge fx 208 dX8_encode_182 (by decide) rfl (by omega) (by omega) (fun h0 => absurd h0 (by omega)) (fun h_103 => ?_)
          refine v_aload_n fx 1 dX8_encode_185 rfl rfl ?_
          refine v_callV (As := []) (rest := []) fx [0, 1] [2, 3, 4, 5, 6, 7] [(h0, ob 8 [.ref xa, .ref xb, .ref xc, .ref xd, .ref xe, .ref xf, .ref xg, .int (iI 0), .int (iI 2), .int (iI vw), .ref xm, .ref xv, .int (iI vg), .ref xw, .int (iI b1), .int (iI 1), .ref xq, .int (iI ve), .int (iI vf), .int (iI vu), .int (iI vl), .ref xr, .ref xh, .ref xo, .ref xp, .int (iI vr), .int (iI va), .int (iI vt), .int (iI vm), .int (iI vd), .int (iI vx)]), (xw, aI g 72000 f1)] [(xv, aZ g 72000 fg), (xa, aI g 64 (lfT mW 64)), (xb, aI g 64 (lfT mB 64)), (xc, aI g 27 (lfT mWM 27)), (xd, aI g 27 (lfT mBM 27)), (xe, aI g 13 (lfT mBO 13))] 0 0 (c_X8_mark_e l g h0 xa xb xc xd xe xf xg xm xv xw xq xr xh xo xp 0 2 vw vg b1 1 ve vf vu vl vr va vt vm vd vx f1 P (by first | omega | decide | assumption) (by first | omega | decide | assumption) (by assumption)) dX8_encode_186 k1102 k1104 k21 k57 k1105 ykX8_mark rfl rfl rfl rfl rfl rfl rfl rfl (nl rfl) ⟨nl rfl, nl rfl⟩ ⟨(nl rfl), (nl rfl)⟩ rfl (fun v9 w9 hu => ?_)
          obtain ⟨b2_104, f2_105, rfl, rfl, u_106, u_107⟩ := hu
          refine v_is (wn := [(xv, aZ g 72000 fg), (xa, aI g 64 (lfT mW 64)), (xb, aI g 64 (lfT mB 64)), (xc, aI g 27 (lfT mWM 27)), (xd, aI g 27 (lfT mBM 27)), (xe, aI g 13 (lfT mBO 13)), (h0, ob 8 [.ref xa, .ref xb, .ref xc, .ref xd, .ref xe, .ref xf, .ref xg, .int (iI 0), .int (iI 2), .int (iI vw), .ref xm, .ref xv, .int (iI vg), .ref xw, .int (iI b2_104), .int (iI 1), .ref xq, .int (iI ve), .int (iI vf), .int (iI vu), .int (iI vl), .ref xr, .ref xh, .ref xo, .ref xp, .int (iI vr), .int (iI va), .int (iI vt), .int (iI vm), .int (iI vd), .int (iI vx)]), (xw, aI g 72000 f2_105)]) (cn := 0) (sn := 0) (sn2 := []) rfl rfl rfl rfl ?_
          refine v_aload_n fx 1 dX8_encode_189 rfl rfl ?_
          refine v_get fx 6 8 inX8 k1004 dX8_encode_190 rfl rfl (by decide) rfl rfl rfl ?_
          refine v_iconst fx dX8_encode_193 rfl ?_
          refine v_icmp_ne fx 202 dX8_encode_194 (by decide) rfl (by omega) (by omega) (fun h_108 => ?_) (fun h0 => absurd h0 (by omega))
          refine v_iinc fx 0 (1) [(1, .int (iI 1)), (0, .ref h0)] dX8_encode_202 rfl (by omega) (by decide) rfl rfl ?_
          refine v_goto fx 167 dX8_encode_205 (by decide) ?_
          refine v_iload_n fx 0 dX8_encode_167 rfl rfl ?_
          refine v_aload_n fx 1 dX8_encode_168 rfl rfl ?_
          refine v_get fx 6 8 inX8 k1004 dX8_encode_169 rfl rfl (by decide) rfl rfl rfl ?_
          refine v_iconst fx dX8_encode_172 rfl ?_
          refine v_icmp_ge fx 181 dX8_encode_173 (by decide) rfl (by omega) (by omega) (fun h_109 => ?_) (fun h0 => absurd h0 (by omega))
          refine v_iconst fx dX8_encode_181 rfl ?_
          refine v_icmp_ge fx 208 dX8_encode_182 (by decide) rfl (by omega) (by omega) (fun h0 => absurd h0 (by omega)) (fun h_110 => ?_)
          refine v_aload_n fx 1 dX8_encode_185 rfl rfl ?_
          refine v_callV (As := []) (rest := []) fx [6, 7] [0, 1, 2, 3, 4, 5] [(h0, ob 8 [.ref xa, .ref xb, .ref xc, .ref xd, .ref xe, .ref xf, .ref xg, .int (iI 0), .int (iI 2), .int (iI vw), .ref xm, .ref xv, .int (iI vg), .ref xw, .int (iI b2_104), .int (iI 1), .ref xq, .int (iI ve), .int (iI vf), .int (iI vu), .int (iI vl), .ref xr, .ref xh, .ref xo, .ref xp, .int (iI vr), .int (iI va), .int (iI vt), .int (iI vm), .int (iI vd), .int (iI vx)]), (xw, aI g 72000 f2_105)] [(xv, aZ g 72000 fg), (xa, aI g 64 (lfT mW 64)), (xb, aI g 64 (lfT mB 64)), (xc, aI g 27 (lfT mWM 27)), (xd, aI g 27 (lfT mBM 27)), (xe, aI g 13 (lfT mBO 13))] 0 0 (c_X8_mark_e l g h0 xa xb xc xd xe xf xg xm xv xw xq xr xh xo xp 0 2 vw vg b2_104 1 ve vf vu vl vr va vt vm vd vx f2_105 ((P) ++ codeB 4097) (by first | omega | decide | assumption) (by first | omega | decide | assumption) (by assumption)) dX8_encode_186 k1102 k1104 k21 k57 k1105 ykX8_mark rfl rfl rfl rfl rfl rfl rfl rfl (nl rfl) ⟨nl rfl, nl rfl⟩ ⟨(nl rfl), (nl rfl)⟩ rfl (fun v9 w9 hu => ?_)
          obtain ⟨b2_111, f2_112, rfl, rfl, u_113, u_114⟩ := hu
          refine v_is (wn := [(xv, aZ g 72000 fg), (xa, aI g 64 (lfT mW 64)), (xb, aI g 64 (lfT mB 64)), (xc, aI g 27 (lfT mWM 27)), (xd, aI g 27 (lfT mBM 27)), (xe, aI g 13 (lfT mBO 13)), (h0, ob 8 [.ref xa, .ref xb, .ref xc, .ref xd, .ref xe, .ref xf, .ref xg, .int (iI 0), .int (iI 2), .int (iI vw), .ref xm, .ref xv, .int (iI vg), .ref xw, .int (iI b2_111), .int (iI 1), .ref xq, .int (iI ve), .int (iI vf), .int (iI vu), .int (iI vl), .ref xr, .ref xh, .ref xo, .ref xp, .int (iI vr), .int (iI va), .int (iI vt), .int (iI vm), .int (iI vd), .int (iI vx)]), (xw, aI g 72000 f2_112)]) (cn := 0) (sn := 0) (sn2 := []) rfl rfl rfl rfl ?_
          refine v_aload_n fx 1 dX8_encode_189 rfl rfl ?_
          refine v_get fx 6 8 inX8 k1004 dX8_encode_190 rfl rfl (by decide) rfl rfl rfl ?_
          refine v_iconst fx dX8_encode_193 rfl ?_
          refine v_icmp_ne fx 202 dX8_encode_194 (by decide) rfl (by omega) (by omega) (fun h_115 => ?_) (fun h0 => absurd h0 (by omega))
          refine v_iinc fx 0 (2) [(1, .int (iI 2)), (0, .ref h0)] dX8_encode_202 rfl (by omega) (by decide) rfl rfl ?_
          refine v_goto fx 167 dX8_encode_205 (by decide) ?_
          refine v_iload_n fx 0 dX8_encode_167 rfl rfl ?_
          refine v_aload_n fx 1 dX8_encode_168 rfl rfl ?_
          refine v_get fx 6 8 inX8 k1004 dX8_encode_169 rfl rfl (by decide) rfl rfl rfl ?_
          refine v_iconst fx dX8_encode_172 rfl ?_
          refine v_icmp_ge fx 181 dX8_encode_173 (by decide) rfl (by omega) (by omega) (fun h_116 => ?_) (fun h0 => absurd h0 (by omega))
          refine v_iconst fx dX8_encode_181 rfl ?_
          refine v_icmp_ge fx 208 dX8_encode_182 (by decide) rfl (by omega) (by omega) (fun h_117 => ?_) (fun h0 => absurd h0 (by omega))
          refine v_aload_n fx 1 dX8_encode_208 rfl rfl ?_
          refine v_get fx 6 14 inX8 k1010 dX8_encode_209 rfl rfl (by decide) rfl rfl rfl ?_
          refine v_bipush fx dX8_encode_212 (by decide +kernel) rfl ?_
          refine v_iadd fx (b2_111 + 7) dX8_encode_214 (by rfl) rfl ?_
          refine v_bipush fx dX8_encode_215 (by decide +kernel) rfl ?_
          refine v_idiv fx (iI ((b2_111 + 7) / 8)) dX8_encode_217 (by decide) (iI_div (by omega) 8 (by decide) (by decide)) rfl ?_
          exact v_iret fx [(h0, ob 8 [.ref xa, .ref xb, .ref xc, .ref xd, .ref xe, .ref xf, .ref xg, .int (iI 0), .int (iI 2), .int (iI vw), .ref xm, .ref xv, .int (iI vg), .ref xw, .int (iI b2_111), .int (iI 1), .ref xq, .int (iI ve), .int (iI vf), .int (iI vu), .int (iI vl), .ref xr, .ref xh, .ref xo, .ref xp, .int (iI vr), .int (iI va), .int (iI vt), .int (iI vm), .int (iI vd), .int (iI vx)]), (xw, aI g 72000 f2_112), (xv, aZ g 72000 fg), (xa, aI g 64 (lfT mW 64)), (xb, aI g 64 (lfT mB 64)), (xc, aI g 27 (lfT mWM 27)), (xd, aI g 27 (lfT mBM 27)), (xe, aI g 13 (lfT mBO 13))] [6, 7, 0, 1, 2, 3, 4, 5] hr dX8_encode_218 rfl rfl (nl rfl) (nl rfl) ⟨((b2_111 + 7) / 8), b2_111, f2_112, (((P) ++ codeB 4097) ++ codeB 4097), rfl, rfl, (by first | omega | rfl | assumption), (by first | omega | rfl | assumption), (by assumption), (by first | exact ⟨P, by rw [show vg.toNat = y.toNat by omega]; exact hi17_3, end_R0⟩ | exact ⟨P, by rw [show vg.toNat = y.toNat by omega]; exact hi17_3, end_R1⟩ | exact ⟨P, by rw [show vg.toNat = y.toNat by omega]; exact hi17_3, end_2⟩)⟩
      ·
        rcases (show vk = 0 ∨ vk = 1 ∨ vk = 2 by omega) with rfl | rfl | rfl
        ·
          refine v_aload_n fx 0 dX8_encode_25 rfl rfl ?_
          refine v_get fx 0 8 inX8 k1004 dX8_encode_26 rfl rfl (by decide) rfl rfl rfl ?_
          refine v_if_eq fx 46 dX8_encode_29 (by decide) rfl (by omega) (fun h_118 => ?_) (fun h0 => absurd h0 (by omega))
          refine v_iconst fx dX8_encode_46 rfl ?_
          refine v_goto fx 51 dX8_encode_47 (by decide) ?_
          refine v_istore_n fx [(2, .int (iI 1)), (0, .ref h0), (1, .int (iI y))] dX8_encode_51 (by decide) rfl rfl ?_
          refine v_aload_n fx 1 dX8_encode_52 rfl rfl ?_
          refine v_get fx 0 8 inX8 k1004 dX8_encode_53 rfl rfl (by decide) rfl rfl rfl ?_
          refine v_iconst fx dX8_encode_56 rfl ?_
          refine v_icmp_ge fx 64 dX8_encode_57 (by decide) rfl (by omega) (by omega) (fun h0 => absurd h0 (by omega)) (fun h_119 => ?_)
          refine v_aload_n fx 1 dX8_encode_60 rfl rfl ?_
          refine v_callV (As := []) (rest := []) fx [0, 1] [2, 3, 4, 5, 6, 7] [(h0, ob 8 [.ref xa, .ref xb, .ref xc, .ref xd, .ref xe, .ref xf, .ref xg, .int (iI 0), .int (iI 0), .int (iI vw), .ref xm, .ref xv, .int (iI vg), .ref xw, .int (iI b1), .int (iI 1), .ref xq, .int (iI ve), .int (iI vf), .int (iI vu), .int (iI vl), .ref xr, .ref xh, .ref xo, .ref xp, .int (iI vr), .int (iI va), .int (iI vt), .int (iI vm), .int (iI vd), .int (iI vx)]), (xw, aI g 72000 f1)] [(xv, aZ g 72000 fg), (xa, aI g 64 (lfT mW 64)), (xb, aI g 64 (lfT mB 64)), (xc, aI g 27 (lfT mWM 27)), (xd, aI g 27 (lfT mBM 27)), (xe, aI g 13 (lfT mBO 13))] 0 0 (c_X8_mark_e l g h0 xa xb xc xd xe xf xg xm xv xw xq xr xh xo xp 0 0 vw vg b1 1 ve vf vu vl vr va vt vm vd vx f1 P (by first | omega | decide | assumption) (by first | omega | decide | assumption) (by assumption)) dX8_encode_61 k1102 k1104 k21 k57 k1105 ykX8_mark rfl rfl rfl rfl rfl rfl rfl rfl (nl rfl) ⟨nl rfl, nl rfl⟩ ⟨(nl rfl), (nl rfl)⟩ rfl (fun v9 w9 hu => ?_)
          obtain ⟨b2_120, f2_121, rfl, rfl, u_122, u_123⟩ := hu
          refine v_is (wn := [(xv, aZ g 72000 fg), (xa, aI g 64 (lfT mW 64)), (xb, aI g 64 (lfT mB 64)), (xc, aI g 27 (lfT mWM 27)), (xd, aI g 27 (lfT mBM 27)), (xe, aI g 13 (lfT mBO 13)), (h0, ob 8 [.ref xa, .ref xb, .ref xc, .ref xd, .ref xe, .ref xf, .ref xg, .int (iI 0), .int (iI 0), .int (iI vw), .ref xm, .ref xv, .int (iI vg), .ref xw, .int (iI b2_120), .int (iI 1), .ref xq, .int (iI ve), .int (iI vf), .int (iI vu), .int (iI vl), .ref xr, .ref xh, .ref xo, .ref xp, .int (iI vr), .int (iI va), .int (iI vt), .int (iI vm), .int (iI vd), .int (iI vx)]), (xw, aI g 72000 f2_121)]) (cn := 0) (sn := 0) (sn2 := []) rfl rfl rfl rfl ?_
          refine v_aload_n fx 1 dX8_encode_64 rfl rfl ?_
          refine v_get fx 6 8 inX8 k1004 dX8_encode_65 rfl rfl (by decide) rfl rfl rfl ?_
          refine v_iconst fx dX8_encode_68 rfl ?_
          refine v_icmp_ne fx 85 dX8_encode_69 (by decide) rfl (by omega) (by omega) (fun h_124 => ?_) (fun h0 => absurd h0 (by omega))
          refine v_aload_n fx 1 dX8_encode_85 rfl rfl ?_
          refine v_get fx 6 14 inX8 k1010 dX8_encode_86 rfl rfl (by decide) rfl rfl rfl ?_
          refine v_istore_n fx [(3, .int (iI b2_120)), (2, .int (iI 1)), (0, .ref h0), (1, .int (iI y))] dX8_encode_89 (by decide) rfl rfl ?_
          refine v_iload_n fx 1 dX8_encode_90 rfl rfl ?_
          refine v_if_eq fx 106 dX8_encode_91 (by decide) rfl (by omega) (fun h0 => absurd h0 (by omega)) (fun h_125 => ?_)
          have hof := one_F (kd := 0) (y := y) (by omega)
          refine v_aload_n fx 2 dX8_encode_94 rfl rfl ?_
          refine v_sipush fx dX8_encode_95 (by decide +kernel) rfl ?_
          refine v_iload_n fx 3 dX8_encode_98 rfl rfl ?_
          refine v_imul fx (3000 * y) dX8_encode_99 (by rfl) rfl ?_
          refine v_callV (As := [.int (iI (3000 * y))]) (rest := []) fx [6, 7, 0, 1, 2, 3, 4, 5] [] [(h0, ob 8 [.ref xa, .ref xb, .ref xc, .ref xd, .ref xe, .ref xf, .ref xg, .int (iI 0), .int (iI 0), .int (iI vw), .ref xm, .ref xv, .int (iI vg), .ref xw, .int (iI b2_120), .int (iI 1), .ref xq, .int (iI ve), .int (iI vf), .int (iI vu), .int (iI vl), .ref xr, .ref xh, .ref xo, .ref xp, .int (iI vr), .int (iI va), .int (iI vt), .int (iI vm), .int (iI vd), .int (iI vx)]), (xw, aI g 72000 f2_121), (xv, aZ g 72000 fg), (xa, aI g 64 (lfT mW 64)), (xb, aI g 64 (lfT mB 64)), (xc, aI g 27 (lfT mWM 27)), (xd, aI g 27 (lfT mBM 27)), (xe, aI g 13 (lfT mBO 13))] [] 1 0 (c_X8_oneDimension_e l g h0 xa xb xc xd xe xf xg xm xv xw xq xr xh xo xp 0 0 vw vg b2_120 1 ve vf vu vl vr va vt vm vd vx f2_121 fg (3000 * y) (P ++ preB 0 (oneF 0 y)) (AA y) (lnn y) (by first | omega | decide | assumption) (by first | omega | decide | assumption) (by first | omega | decide | assumption) (by first | omega | decide | assumption) (by exact SmpR_at hp5 (by omega)) (by exact EncR_eq (by assumption) (by first | (rw [← preB_0]) | (rw [← preB_2, List.append_nil]) | (rw [hof, ← preB_1 (one := 1) (x := 1) (by omega), List.append_assoc]) | (rw [hof, ← preB_1 (one := 0) (x := 0) (by omega), List.append_assoc])))) dX8_encode_100 k1114 k1116 k24 k57 k1117 ykX8_oneDimension rfl rfl rfl rfl rfl rfl rfl rfl (nl rfl) ⟨nl rfl, nl rfl⟩ ⟨(nl rfl), (nl rfl)⟩ rfl (fun v9 w9 hu => ?_)
          obtain ⟨b2_126, f2_127, rfl, rfl, u_128, u_129⟩ := hu
          refine v_is (wn := [(h0, ob 8 [.ref xa, .ref xb, .ref xc, .ref xd, .ref xe, .ref xf, .ref xg, .int (iI 0), .int (iI 0), .int (iI vw), .ref xm, .ref xv, .int (iI vg), .ref xw, .int (iI b2_126), .int (iI 1), .ref xq, .int (iI ve), .int (iI vf), .int (iI vu), .int (iI vl), .ref xr, .ref xh, .ref xo, .ref xp, .int (iI vr), .int (iI va), .int (iI vt), .int (iI vm), .int (iI vd), .int (iI vx)]), (xw, aI g 72000 f2_127), (xv, aZ g 72000 fg), (xa, aI g 64 (lfT mW 64)), (xb, aI g 64 (lfT mB 64)), (xc, aI g 27 (lfT mWM 27)), (xd, aI g 27 (lfT mBM 27)), (xe, aI g 13 (lfT mBO 13))]) (cn := 0) (sn := 0) (sn2 := []) rfl rfl rfl rfl ?_
          have hRB : RowB 0 vw AA lnn y (oneUp (AA y) (lnn y + 1).toNat) := Or.inl ⟨hof, rfl⟩
          have hER := EncR_as u_129
          have hcR := EncR_c hER
          have hcP := EncR_c hi17_2
          have hpl := preB_l (kd := 0) (one := oneF 0 y) (by omega)
          refine v_goto fx 130 dX8_encode_103 (by decide) ?_
          have L130 : ∀ (N : Nat) (b3 : Int) (f3 : Nat → Int32) (j : Int), (0 ≤ b3 ∧ b3 ≤ 21060 * (y + 1)) → (b3 = b2_126 + j ∧ 0 ≤ j) → (j = 0 ∨ b3 - b2_120 ≤ vf) → (EncR f3 (7 - 7 * vl) b3 ((P ++ (preB 0 (oneF 0 y) ++ (oneUp (AA y) (lnn y + 1).toNat))) ++ List.replicate j.toNat false)) → ((b2_120 + vf - b3).toNat) < N → V p9 l e9 (rmD 5 0 0) s9 m9 ag9 bl9 mt9 c9 4 g A9 (MQ bl9 (cQ g (po_c_X8_encode_e g h0 xa xb xc xd xe xf xg xm xv xw xq xr xh xo xp vc 0 vw vg vb vi ve vf vu vl vr va vt vm vd vx f fg AA lnn) A9) ag9 s9 0 0 A9) [(h0, ob 8 [.ref xa, .ref xb, .ref xc, .ref xd, .ref xe, .ref xf, .ref xg, .int (iI 0), .int (iI 0), .int (iI vw), .ref xm, .ref xv, .int (iI vg), .ref xw, .int (iI b3), .int (iI 1), .ref xq, .int (iI ve), .int (iI vf), .int (iI vu), .int (iI vl), .ref xr, .ref xh, .ref xo, .ref xp, .int (iI vr), .int (iI va), .int (iI vt), .int (iI vm), .int (iI vd), .int (iI vx)]), (xw, aI g 72000 f3), (xv, aZ g 72000 fg), (xa, aI g 64 (lfT mW 64)), (xb, aI g 64 (lfT mB 64)), (xc, aI g 27 (lfT mWM 27)), (xd, aI g 27 (lfT mBM 27)), (xe, aI g 13 (lfT mBO 13))] 0 0 [(0, .ref h0), (1, .int (iI y)), (3, .int (iI b2_120))] 130 [] := by
            intro N
            induction N with
            | zero => intro b3 f3 j hi130_0 hi130_1 hi130_2 hi130_3 hN; exact absurd hN (Nat.not_lt_zero _)
            | succ N ihL130 =>
              intro b3 f3 j hi130_0 hi130_1 hi130_2 hi130_3 hN130
              refine v_aload_n fx 0 dX8_encode_130 rfl rfl ?_
              refine v_get fx 0 8 inX8 k1004 dX8_encode_131 rfl rfl (by decide) rfl rfl rfl ?_
              refine v_iconst fx dX8_encode_134 rfl ?_
              refine v_icmp_ge fx 159 dX8_encode_135 (by decide) rfl (by omega) (by omega) (fun h0 => absurd h0 (by omega)) (fun h_130 => ?_)
              refine v_aload_n fx 0 dX8_encode_138 rfl rfl ?_
              refine v_get fx 0 14 inX8 k1010 dX8_encode_139 rfl rfl (by decide) rfl rfl rfl ?_
              refine v_iload_n fx 2 dX8_encode_142 rfl rfl ?_
              refine v_isub fx (b3 - b2_120) dX8_encode_143 (by rfl) rfl ?_
              refine v_aload_n fx 0 dX8_encode_144 rfl rfl ?_
              refine v_get fx 0 18 inX8 k1014 dX8_encode_145 rfl rfl (by decide) rfl rfl rfl ?_
              refine v_icmp_ge fx 159 dX8_encode_148 (by decide) rfl (by omega) (by omega) (fun h_131 => ?_) (fun h_131 => ?_)
              ·
                refine v_iinc fx 1 (y + 1) [(1, .int (iI (y + 1))), (0, .ref h0), (3, .int (iI b2_120))] dX8_encode_159 rfl (by omega) (by decide) rfl rfl ?_
                refine v_goto fx 17 dX8_encode_162 (by decide) ?_
                refine v_lv [1, 0] [(0, .ref h0), (1, .int (iI (y + 1)))] rfl ?_
                exact ihL17 (y + 1) b3 f3 (P ++ (preB 0 (oneF 0 y) ++ ((oneUp (AA y) (lnn y + 1).toNat) ++ fillB 0 vf (oneUp (AA y) (lnn y + 1).toNat)))) (by omega) (by omega) (by exact EncR_eq hi130_3 (by rw [fill_R2 (fl := vf) hcR hcP (by omega)]; simp only [List.append_assoc])) (by exact Doc_step hi17_3 (by omega) hRB) (by omega)
              ·
                refine v_aload_n fx 0 dX8_encode_151 rfl rfl ?_
                refine v_iconst fx dX8_encode_152 rfl ?_
                refine v_callV (As := [.int (iI 0)]) (rest := []) fx [0, 1] [2, 3, 4, 5, 6, 7] [(h0, ob 8 [.ref xa, .ref xb, .ref xc, .ref xd, .ref xe, .ref xf, .ref xg, .int (iI 0), .int (iI 0), .int (iI vw), .ref xm, .ref xv, .int (iI vg), .ref xw, .int (iI b3), .int (iI 1), .ref xq, .int (iI ve), .int (iI vf), .int (iI vu), .int (iI vl), .ref xr, .ref xh, .ref xo, .ref xp, .int (iI vr), .int (iI va), .int (iI vt), .int (iI vm), .int (iI vd), .int (iI vx)]), (xw, aI g 72000 f3)] [(xv, aZ g 72000 fg), (xa, aI g 64 (lfT mW 64)), (xb, aI g 64 (lfT mB 64)), (xc, aI g 27 (lfT mWM 27)), (xd, aI g 27 (lfT mBM 27)), (xe, aI g 13 (lfT mBO 13))] 1 0 (c_X8_bit_e l g h0 xa xb xc xd xe xf xg xm xv xw xq xr xh xo xp 0 0 vw vg b3 1 ve vf vu vl vr va vt vm vd vx f3 0 ((P ++ (preB 0 (oneF 0 y) ++ (oneUp (AA y) (lnn y + 1).toNat))) ++ List.replicate j.toNat false) (by first | omega | decide | assumption) (by first | omega | decide | assumption) (by first | omega | decide | assumption) (by exact hi130_3)) dX8_encode_153 k1110 k1112 k23 k57 k1113 ykX8_bit rfl rfl rfl rfl rfl rfl rfl rfl (nl rfl) ⟨nl rfl, nl rfl⟩ ⟨(nl rfl), (nl rfl)⟩ rfl (fun v9 w9 hu => ?_)
                obtain ⟨f2_132, rfl, rfl, u_133⟩ := hu
                refine v_is (wn := [(xv, aZ g 72000 fg), (xa, aI g 64 (lfT mW 64)), (xb, aI g 64 (lfT mB 64)), (xc, aI g 27 (lfT mWM 27)), (xd, aI g 27 (lfT mBM 27)), (xe, aI g 13 (lfT mBO 13)), (h0, ob 8 [.ref xa, .ref xb, .ref xc, .ref xd, .ref xe, .ref xf, .ref xg, .int (iI 0), .int (iI 0), .int (iI vw), .ref xm, .ref xv, .int (iI vg), .ref xw, .int (iI (b3 + 1)), .int (iI 1), .ref xq, .int (iI ve), .int (iI vf), .int (iI vu), .int (iI vl), .ref xr, .ref xh, .ref xo, .ref xp, .int (iI vr), .int (iI va), .int (iI vt), .int (iI vm), .int (iI vd), .int (iI vx)]), (xw, aI g 72000 f2_132)]) (cn := 0) (sn := 0) (sn2 := []) rfl rfl rfl rfl ?_
                refine v_goto fx 130 dX8_encode_156 (by decide) ?_
                refine v_ws [6, 7, 0, 1, 2, 3, 4, 5] [(h0, ob 8 [.ref xa, .ref xb, .ref xc, .ref xd, .ref xe, .ref xf, .ref xg, .int (iI 0), .int (iI 0), .int (iI vw), .ref xm, .ref xv, .int (iI vg), .ref xw, .int (iI (b3 + 1)), .int (iI 1), .ref xq, .int (iI ve), .int (iI vf), .int (iI vu), .int (iI vl), .ref xr, .ref xh, .ref xo, .ref xp, .int (iI vr), .int (iI va), .int (iI vt), .int (iI vm), .int (iI vd), .int (iI vx)]), (xw, aI g 72000 f2_132), (xv, aZ g 72000 fg), (xa, aI g 64 (lfT mW 64)), (xb, aI g 64 (lfT mB 64)), (xc, aI g 27 (lfT mWM 27)), (xd, aI g 27 (lfT mBM 27)), (xe, aI g 13 (lfT mBO 13))] rfl rfl ?_
                exact ihL130 (b3 + 1) f2_132 (j + 1) (by omega) (by omega) (by omega) (by exact bit_0 (by assumption) (by omega)) (by omega)
          refine v_lv [2, 3, 0] [(0, .ref h0), (1, .int (iI y)), (3, .int (iI b2_120))] rfl ?_
          exact L130 _ b2_126 f2_127 0 (by omega) (by omega) (by omega) (by show EncR _ _ _ (_ ++ []); rw [List.append_nil]; exact hER) (Nat.lt_succ_self _)
        ·
          refine v_aload_n fx 0 dX8_encode_25 rfl rfl ?_
          refine v_get fx 0 8 inX8 k1004 dX8_encode_26 rfl rfl (by decide) rfl rfl rfl ?_
          refine v_if_eq fx 46 dX8_encode_29 (by decide) rfl (by omega) (fun h0 => absurd h0 (by omega)) (fun h_134 => ?_)
          refine v_aload_n fx 0 dX8_encode_32 rfl rfl ?_
          refine v_get fx 0 8 inX8 k1004 dX8_encode_33 rfl rfl (by decide) rfl rfl rfl ?_
          refine v_iconst fx dX8_encode_36 rfl ?_
          refine v_icmp_ne fx 50 dX8_encode_37 (by decide) rfl (by omega) (by omega) (fun h0 => absurd h0 (by omega)) (fun h_135 => ?_)
          refine v_iload_n fx 1 dX8_encode_40 rfl rfl ?_
          refine v_iconst fx dX8_encode_41 rfl ?_
          refine v_irem fx (iI (y % 4)) dX8_encode_42 (by decide) (iI_rem (by omega) 4 (by decide) (by decide)) rfl ?_
          refine v_if_ne fx 50 dX8_encode_43 (by decide) rfl (by omega) (fun h_136 => ?_) (fun h_136 => ?_)
          ·
            refine v_iconst fx dX8_encode_50 rfl ?_
            refine v_istore_n fx [(2, .int (iI 0)), (0, .ref h0), (1, .int (iI y))] dX8_encode_51 (by decide) rfl rfl ?_
            refine v_aload_n fx 1 dX8_encode_52 rfl rfl ?_
            refine v_get fx 0 8 inX8 k1004 dX8_encode_53 rfl rfl (by decide) rfl rfl rfl ?_
            refine v_iconst fx dX8_encode_56 rfl ?_
            refine v_icmp_ge fx 64 dX8_encode_57 (by decide) rfl (by omega) (by omega) (fun h0 => absurd h0 (by omega)) (fun h_137 => ?_)
            refine v_aload_n fx 1 dX8_encode_60 rfl rfl ?_
            refine v_callV (As := []) (rest := []) fx [0, 1] [2, 3, 4, 5, 6, 7] [(h0, ob 8 [.ref xa, .ref xb, .ref xc, .ref xd, .ref xe, .ref xf, .ref xg, .int (iI 0), .int (iI 1), .int (iI vw), .ref xm, .ref xv, .int (iI vg), .ref xw, .int (iI b1), .int (iI 1), .ref xq, .int (iI ve), .int (iI vf), .int (iI vu), .int (iI vl), .ref xr, .ref xh, .ref xo, .ref xp, .int (iI vr), .int (iI va), .int (iI vt), .int (iI vm), .int (iI vd), .int (iI vx)]), (xw, aI g 72000 f1)] [(xv, aZ g 72000 fg), (xa, aI g 64 (lfT mW 64)), (xb, aI g 64 (lfT mB 64)), (xc, aI g 27 (lfT mWM 27)), (xd, aI g 27 (lfT mBM 27)), (xe, aI g 13 (lfT mBO 13))] 0 0 (c_X8_mark_e l g h0 xa xb xc xd xe xf xg xm xv xw xq xr xh xo xp 0 1 vw vg b1 1 ve vf vu vl vr va vt vm vd vx f1 P (by first | omega | decide | assumption) (by first | omega | decide | assumption) (by assumption)) dX8_encode_61 k1102 k1104 k21 k57 k1105 ykX8_mark rfl rfl rfl rfl rfl rfl rfl rfl (nl rfl) ⟨nl rfl, nl rfl⟩ ⟨(nl rfl), (nl rfl)⟩ rfl (fun v9 w9 hu => ?_)
            obtain ⟨b2_138, f2_139, rfl, rfl, u_140, u_141⟩ := hu
            refine v_is (wn := [(xv, aZ g 72000 fg), (xa, aI g 64 (lfT mW 64)), (xb, aI g 64 (lfT mB 64)), (xc, aI g 27 (lfT mWM 27)), (xd, aI g 27 (lfT mBM 27)), (xe, aI g 13 (lfT mBO 13)), (h0, ob 8 [.ref xa, .ref xb, .ref xc, .ref xd, .ref xe, .ref xf, .ref xg, .int (iI 0), .int (iI 1), .int (iI vw), .ref xm, .ref xv, .int (iI vg), .ref xw, .int (iI b2_138), .int (iI 1), .ref xq, .int (iI ve), .int (iI vf), .int (iI vu), .int (iI vl), .ref xr, .ref xh, .ref xo, .ref xp, .int (iI vr), .int (iI va), .int (iI vt), .int (iI vm), .int (iI vd), .int (iI vx)]), (xw, aI g 72000 f2_139)]) (cn := 0) (sn := 0) (sn2 := []) rfl rfl rfl rfl ?_
            refine v_aload_n fx 1 dX8_encode_64 rfl rfl ?_
            refine v_get fx 6 8 inX8 k1004 dX8_encode_65 rfl rfl (by decide) rfl rfl rfl ?_
            refine v_iconst fx dX8_encode_68 rfl ?_
            refine v_icmp_ne fx 85 dX8_encode_69 (by decide) rfl (by omega) (by omega) (fun h0 => absurd h0 (by omega)) (fun h_142 => ?_)
            refine v_aload_n fx 1 dX8_encode_72 rfl rfl ?_
            refine v_iload_n fx 0 dX8_encode_73 rfl rfl ?_
            refine v_if_eq fx 81 dX8_encode_74 (by decide) rfl (by omega) (fun h_143 => ?_) (fun h0 => absurd h0 (by omega))
            refine v_iconst fx dX8_encode_81 rfl ?_
            refine v_callV (As := [.int (iI 0)]) (rest := []) fx [6, 7] [0, 1, 2, 3, 4, 5] [(h0, ob 8 [.ref xa, .ref xb, .ref xc, .ref xd, .ref xe, .ref xf, .ref xg, .int (iI 0), .int (iI 1), .int (iI vw), .ref xm, .ref xv, .int (iI vg), .ref xw, .int (iI b2_138), .int (iI 1), .ref xq, .int (iI ve), .int (iI vf), .int (iI vu), .int (iI vl), .ref xr, .ref xh, .ref xo, .ref xp, .int (iI vr), .int (iI va), .int (iI vt), .int (iI vm), .int (iI vd), .int (iI vx)]), (xw, aI g 72000 f2_139)] [(xv, aZ g 72000 fg), (xa, aI g 64 (lfT mW 64)), (xb, aI g 64 (lfT mB 64)), (xc, aI g 27 (lfT mWM 27)), (xd, aI g 27 (lfT mBM 27)), (xe, aI g 13 (lfT mBO 13))] 1 0 (c_X8_bit_e l g h0 xa xb xc xd xe xf xg xm xv xw xq xr xh xo xp 0 1 vw vg b2_138 1 ve vf vu vl vr va vt vm vd vx f2_139 0 ((P) ++ codeB 4097) (by first | omega | decide | assumption) (by first | omega | decide | assumption) (by first | omega | decide | assumption) (by assumption)) dX8_encode_82 k1110 k1112 k23 k57 k1113 ykX8_bit rfl rfl rfl rfl rfl rfl rfl rfl (nl rfl) ⟨nl rfl, nl rfl⟩ ⟨(nl rfl), (nl rfl)⟩ rfl (fun v9 w9 hu => ?_)
            obtain ⟨f2_144, rfl, rfl, u_145⟩ := hu
            refine v_is (wn := [(xv, aZ g 72000 fg), (xa, aI g 64 (lfT mW 64)), (xb, aI g 64 (lfT mB 64)), (xc, aI g 27 (lfT mWM 27)), (xd, aI g 27 (lfT mBM 27)), (xe, aI g 13 (lfT mBO 13)), (h0, ob 8 [.ref xa, .ref xb, .ref xc, .ref xd, .ref xe, .ref xf, .ref xg, .int (iI 0), .int (iI 1), .int (iI vw), .ref xm, .ref xv, .int (iI vg), .ref xw, .int (iI (b2_138 + 1)), .int (iI 1), .ref xq, .int (iI ve), .int (iI vf), .int (iI vu), .int (iI vl), .ref xr, .ref xh, .ref xo, .ref xp, .int (iI vr), .int (iI va), .int (iI vt), .int (iI vm), .int (iI vd), .int (iI vx)]), (xw, aI g 72000 f2_144)]) (cn := 0) (sn := 0) (sn2 := []) rfl rfl rfl rfl ?_
            refine v_aload_n fx 1 dX8_encode_85 rfl rfl ?_
            refine v_get fx 6 14 inX8 k1010 dX8_encode_86 rfl rfl (by decide) rfl rfl rfl ?_
            refine v_istore_n fx [(3, .int (iI (b2_138 + 1))), (2, .int (iI 0)), (0, .ref h0), (1, .int (iI y))] dX8_encode_89 (by decide) rfl rfl ?_
            refine v_iload_n fx 1 dX8_encode_90 rfl rfl ?_
            refine v_if_eq fx 106 dX8_encode_91 (by decide) rfl (by omega) (fun h_146 => ?_) (fun h0 => absurd h0 (by omega))
            have hof := two_F (kd := 1) (y := y) (by omega)
            refine v_aload_n fx 2 dX8_encode_106 rfl rfl ?_
            refine v_sipush fx dX8_encode_107 (by decide +kernel) rfl ?_
            refine v_iload_n fx 3 dX8_encode_110 rfl rfl ?_
            refine v_imul fx (3000 * y) dX8_encode_111 (by rfl) rfl ?_
            refine v_iload_n fx 3 dX8_encode_112 rfl rfl ?_
            refine v_if_ne fx 120 dX8_encode_113 (by decide) rfl (by omega) (fun h_147 => ?_) (fun h_147 => ?_)
            ·
              refine v_sipush fx dX8_encode_120 (by decide +kernel) rfl ?_
              refine v_iload_n fx 3 dX8_encode_123 rfl rfl ?_
              refine v_iconst fx dX8_encode_124 rfl ?_
              refine v_isub fx (y - 1) dX8_encode_125 (by rfl) rfl ?_
              refine v_imul fx (3000 * (y - 1)) dX8_encode_126 (by rfl) rfl ?_
              refine v_callV (As := [.int (iI (3000 * y)), .int (iI (3000 * (y - 1)))]) (rest := []) fx [6, 7, 0, 1, 2, 3, 4, 5] [] [(h0, ob 8 [.ref xa, .ref xb, .ref xc, .ref xd, .ref xe, .ref xf, .ref xg, .int (iI 0), .int (iI 1), .int (iI vw), .ref xm, .ref xv, .int (iI vg), .ref xw, .int (iI (b2_138 + 1)), .int (iI 1), .ref xq, .int (iI ve), .int (iI vf), .int (iI vu), .int (iI vl), .ref xr, .ref xh, .ref xo, .ref xp, .int (iI vr), .int (iI va), .int (iI vt), .int (iI vm), .int (iI vd), .int (iI vx)]), (xw, aI g 72000 f2_144), (xv, aZ g 72000 fg), (xa, aI g 64 (lfT mW 64)), (xb, aI g 64 (lfT mB 64)), (xc, aI g 27 (lfT mWM 27)), (xd, aI g 27 (lfT mBM 27)), (xe, aI g 13 (lfT mBO 13))] [] 2 0 (c_X8_twoDimensions_e l g h0 xa xb xc xd xe xf xg xm xv xw xq xr xh xo xp 0 1 vw vg (b2_138 + 1) 1 ve vf vu vl vr va vt vm vd vx f2_144 fg (3000 * y) (3000 * (y - 1)) (P ++ preB 1 (oneF 1 y)) (AA y) (lnn y) (AA (y - 1)) (lnn (y - 1)) (by first | omega | decide | assumption) (by first | omega | decide | assumption) (by first | omega | decide | assumption) (by first | omega | decide | assumption) (by first | omega | decide | assumption) (by exact SmpR_at hp5 (by omega)) (by exact SmpR_ab hp5 (by omega) (by omega)) (by exact EncR_eq (by assumption) (by first | (rw [← preB_0]) | (rw [← preB_2, List.append_nil]) | (rw [hof, ← preB_1 (one := 1) (x := 1) (by omega), List.append_assoc]) | (rw [hof, ← preB_1 (one := 0) (x := 0) (by omega), List.append_assoc])))) dX8_encode_127 k1126 k1128 k27 k57 k1129 ykX8_twoDimensions rfl rfl rfl rfl rfl rfl rfl rfl (nl rfl) ⟨nl rfl, nl rfl⟩ ⟨(nl rfl), (nl rfl)⟩ rfl (fun v9 w9 hu => ?_)
              obtain ⟨b2_148, f2_149, R_150, rfl, rfl, u_151, u_152, u_153⟩ := hu
              refine v_is (wn := [(h0, ob 8 [.ref xa, .ref xb, .ref xc, .ref xd, .ref xe, .ref xf, .ref xg, .int (iI 0), .int (iI 1), .int (iI vw), .ref xm, .ref xv, .int (iI vg), .ref xw, .int (iI b2_148), .int (iI 1), .ref xq, .int (iI ve), .int (iI vf), .int (iI vu), .int (iI vl), .ref xr, .ref xh, .ref xo, .ref xp, .int (iI vr), .int (iI va), .int (iI vt), .int (iI vm), .int (iI vd), .int (iI vx)]), (xw, aI g 72000 f2_149), (xv, aZ g 72000 fg), (xa, aI g 64 (lfT mW 64)), (xb, aI g 64 (lfT mB 64)), (xc, aI g 27 (lfT mWM 27)), (xd, aI g 27 (lfT mBM 27)), (xe, aI g 13 (lfT mBO 13))]) (cn := 0) (sn := 0) (sn2 := []) rfl rfl rfl rfl ?_
              have hRB : RowB 1 vw AA lnn y R_150 := Or.inr ⟨hof, u_153⟩
              have hER := EncR_as u_152
              have hcR := EncR_c hER
              have hcP := EncR_c hi17_2
              have hpl := preB_l (kd := 1) (one := oneF 1 y) (by omega)
              have L130 : ∀ (N : Nat) (b3 : Int) (f3 : Nat → Int32) (j : Int), (0 ≤ b3 ∧ b3 ≤ 21060 * (y + 1)) → (b3 = b2_148 + j ∧ 0 ≤ j) → (j = 0 ∨ b3 - (b2_138 + 1) ≤ vf) → (EncR f3 (7 - 7 * vl) b3 ((P ++ (preB 1 (oneF 1 y) ++ R_150)) ++ List.replicate j.toNat false)) → (((b2_138 + 1) + vf - b3).toNat) < N → V p9 l e9 (rmD 5 0 0) s9 m9 ag9 bl9 mt9 c9 4 g A9 (MQ bl9 (cQ g (po_c_X8_encode_e g h0 xa xb xc xd xe xf xg xm xv xw xq xr xh xo xp vc 1 vw vg vb vi ve vf vu vl vr va vt vm vd vx f fg AA lnn) A9) ag9 s9 0 0 A9) [(h0, ob 8 [.ref xa, .ref xb, .ref xc, .ref xd, .ref xe, .ref xf, .ref xg, .int (iI 0), .int (iI 1), .int (iI vw), .ref xm, .ref xv, .int (iI vg), .ref xw, .int (iI b3), .int (iI 1), .ref xq, .int (iI ve), .int (iI vf), .int (iI vu), .int (iI vl), .ref xr, .ref xh, .ref xo, .ref xp, .int (iI vr), .int (iI va), .int (iI vt), .int (iI vm), .int (iI vd), .int (iI vx)]), (xw, aI g 72000 f3), (xv, aZ g 72000 fg), (xa, aI g 64 (lfT mW 64)), (xb, aI g 64 (lfT mB 64)), (xc, aI g 27 (lfT mWM 27)), (xd, aI g 27 (lfT mBM 27)), (xe, aI g 13 (lfT mBO 13))] 0 0 [(0, .ref h0), (1, .int (iI y)), (3, .int (iI (b2_138 + 1)))] 130 [] := by
                intro N
                induction N with
                | zero => intro b3 f3 j hi130_0 hi130_1 hi130_2 hi130_3 hN; exact absurd hN (Nat.not_lt_zero _)
                | succ N ihL130 =>
                  intro b3 f3 j hi130_0 hi130_1 hi130_2 hi130_3 hN130
                  refine v_aload_n fx 0 dX8_encode_130 rfl rfl ?_
                  refine v_get fx 0 8 inX8 k1004 dX8_encode_131 rfl rfl (by decide) rfl rfl rfl ?_
                  refine v_iconst fx dX8_encode_134 rfl ?_
                  refine v_icmp_ge fx 159 dX8_encode_135 (by decide) rfl (by omega) (by omega) (fun h0 => absurd h0 (by omega)) (fun h_154 => ?_)
                  refine v_aload_n fx 0 dX8_encode_138 rfl rfl ?_
                  refine v_get fx 0 14 inX8 k1010 dX8_encode_139 rfl rfl (by decide) rfl rfl rfl ?_
                  refine v_iload_n fx 2 dX8_encode_142 rfl rfl ?_
                  refine v_isub fx (b3 - (b2_138 + 1)) dX8_encode_143 (by rfl) rfl ?_
                  refine v_aload_n fx 0 dX8_encode_144 rfl rfl ?_
                  refine v_get fx 0 18 inX8 k1014 dX8_encode_145 rfl rfl (by decide) rfl rfl rfl ?_
                  refine v_icmp_ge fx 159 dX8_encode_148 (by decide) rfl (by omega) (by omega) (fun h_155 => ?_) (fun h_155 => ?_)
                  ·
                    refine v_iinc fx 1 (y + 1) [(1, .int (iI (y + 1))), (0, .ref h0), (3, .int (iI (b2_138 + 1)))] dX8_encode_159 rfl (by omega) (by decide) rfl rfl ?_
                    refine v_goto fx 17 dX8_encode_162 (by decide) ?_
                    refine v_lv [1, 0] [(0, .ref h0), (1, .int (iI (y + 1)))] rfl ?_
                    exact ihL17 (y + 1) b3 f3 (P ++ (preB 1 (oneF 1 y) ++ (R_150 ++ fillB 1 vf R_150))) (by omega) (by omega) (by exact EncR_eq hi130_3 (by rw [fill_R2 (fl := vf) hcR hcP (by omega)]; simp only [List.append_assoc])) (by exact Doc_step hi17_3 (by omega) hRB) (by omega)
                  ·
                    refine v_aload_n fx 0 dX8_encode_151 rfl rfl ?_
                    refine v_iconst fx dX8_encode_152 rfl ?_
                    refine v_callV (As := [.int (iI 0)]) (rest := []) fx [0, 1] [2, 3, 4, 5, 6, 7] [(h0, ob 8 [.ref xa, .ref xb, .ref xc, .ref xd, .ref xe, .ref xf, .ref xg, .int (iI 0), .int (iI 1), .int (iI vw), .ref xm, .ref xv, .int (iI vg), .ref xw, .int (iI b3), .int (iI 1), .ref xq, .int (iI ve), .int (iI vf), .int (iI vu), .int (iI vl), .ref xr, .ref xh, .ref xo, .ref xp, .int (iI vr), .int (iI va), .int (iI vt), .int (iI vm), .int (iI vd), .int (iI vx)]), (xw, aI g 72000 f3)] [(xv, aZ g 72000 fg), (xa, aI g 64 (lfT mW 64)), (xb, aI g 64 (lfT mB 64)), (xc, aI g 27 (lfT mWM 27)), (xd, aI g 27 (lfT mBM 27)), (xe, aI g 13 (lfT mBO 13))] 1 0 (c_X8_bit_e l g h0 xa xb xc xd xe xf xg xm xv xw xq xr xh xo xp 0 1 vw vg b3 1 ve vf vu vl vr va vt vm vd vx f3 0 ((P ++ (preB 1 (oneF 1 y) ++ R_150)) ++ List.replicate j.toNat false) (by first | omega | decide | assumption) (by first | omega | decide | assumption) (by first | omega | decide | assumption) (by exact hi130_3)) dX8_encode_153 k1110 k1112 k23 k57 k1113 ykX8_bit rfl rfl rfl rfl rfl rfl rfl rfl (nl rfl) ⟨nl rfl, nl rfl⟩ ⟨(nl rfl), (nl rfl)⟩ rfl (fun v9 w9 hu => ?_)
                    obtain ⟨f2_156, rfl, rfl, u_157⟩ := hu
                    refine v_is (wn := [(xv, aZ g 72000 fg), (xa, aI g 64 (lfT mW 64)), (xb, aI g 64 (lfT mB 64)), (xc, aI g 27 (lfT mWM 27)), (xd, aI g 27 (lfT mBM 27)), (xe, aI g 13 (lfT mBO 13)), (h0, ob 8 [.ref xa, .ref xb, .ref xc, .ref xd, .ref xe, .ref xf, .ref xg, .int (iI 0), .int (iI 1), .int (iI vw), .ref xm, .ref xv, .int (iI vg), .ref xw, .int (iI (b3 + 1)), .int (iI 1), .ref xq, .int (iI ve), .int (iI vf), .int (iI vu), .int (iI vl), .ref xr, .ref xh, .ref xo, .ref xp, .int (iI vr), .int (iI va), .int (iI vt), .int (iI vm), .int (iI vd), .int (iI vx)]), (xw, aI g 72000 f2_156)]) (cn := 0) (sn := 0) (sn2 := []) rfl rfl rfl rfl ?_
                    refine v_goto fx 130 dX8_encode_156 (by decide) ?_
                    refine v_ws [6, 7, 0, 1, 2, 3, 4, 5] [(h0, ob 8 [.ref xa, .ref xb, .ref xc, .ref xd, .ref xe, .ref xf, .ref xg, .int (iI 0), .int (iI 1), .int (iI vw), .ref xm, .ref xv, .int (iI vg), .ref xw, .int (iI (b3 + 1)), .int (iI 1), .ref xq, .int (iI ve), .int (iI vf), .int (iI vu), .int (iI vl), .ref xr, .ref xh, .ref xo, .ref xp, .int (iI vr), .int (iI va), .int (iI vt), .int (iI vm), .int (iI vd), .int (iI vx)]), (xw, aI g 72000 f2_156), (xv, aZ g 72000 fg), (xa, aI g 64 (lfT mW 64)), (xb, aI g 64 (lfT mB 64)), (xc, aI g 27 (lfT mWM 27)), (xd, aI g 27 (lfT mBM 27)), (xe, aI g 13 (lfT mBO 13))] rfl rfl ?_
                    exact ihL130 (b3 + 1) f2_156 (j + 1) (by omega) (by omega) (by omega) (by exact bit_0 (by assumption) (by omega)) (by omega)
              refine v_lv [2, 3, 0] [(0, .ref h0), (1, .int (iI y)), (3, .int (iI (b2_138 + 1)))] rfl ?_
              exact L130 _ b2_148 f2_149 0 (by omega) (by omega) (by omega) (by show EncR _ _ _ (_ ++ []); rw [List.append_nil]; exact hER) (Nat.lt_succ_self _)
            ·
              refine v_iconst fx dX8_encode_116 rfl ?_
              refine v_goto fx 127 dX8_encode_117 (by decide) ?_
              refine v_callV (As := [.int (iI (3000 * y)), .int (iI (-1))]) (rest := []) fx [6, 7, 0, 1, 2, 3, 4, 5] [] [(h0, ob 8 [.ref xa, .ref xb, .ref xc, .ref xd, .ref xe, .ref xf, .ref xg, .int (iI 0), .int (iI 1), .int (iI vw), .ref xm, .ref xv, .int (iI vg), .ref xw, .int (iI (b2_138 + 1)), .int (iI 1), .ref xq, .int (iI ve), .int (iI vf), .int (iI vu), .int (iI vl), .ref xr, .ref xh, .ref xo, .ref xp, .int (iI vr), .int (iI va), .int (iI vt), .int (iI vm), .int (iI vd), .int (iI vx)]), (xw, aI g 72000 f2_144), (xv, aZ g 72000 fg), (xa, aI g 64 (lfT mW 64)), (xb, aI g 64 (lfT mB 64)), (xc, aI g 27 (lfT mWM 27)), (xd, aI g 27 (lfT mBM 27)), (xe, aI g 13 (lfT mBO 13))] [] 2 0 (c_X8_twoDimensions_e l g h0 xa xb xc xd xe xf xg xm xv xw xq xr xh xo xp 0 1 vw vg (b2_138 + 1) 1 ve vf vu vl vr va vt vm vd vx f2_144 fg (3000 * y) (-1) (P ++ preB 1 (oneF 1 y)) (AA y) (lnn y) (AA (y - 1)) (lnn (y - 1)) (by first | omega | decide | assumption) (by first | omega | decide | assumption) (by first | omega | decide | assumption) (by first | omega | decide | assumption) (by first | omega | decide | assumption) (by exact SmpR_at hp5 (by omega)) (by exact SmpR_ab hp5 (by omega) (by omega)) (by exact EncR_eq (by assumption) (by first | (rw [← preB_0]) | (rw [← preB_2, List.append_nil]) | (rw [hof, ← preB_1 (one := 1) (x := 1) (by omega), List.append_assoc]) | (rw [hof, ← preB_1 (one := 0) (x := 0) (by omega), List.append_assoc])))) dX8_encode_127 k1126 k1128 k27 k57 k1129 ykX8_twoDimensions rfl rfl rfl rfl rfl rfl rfl rfl (nl rfl) ⟨nl rfl, nl rfl⟩ ⟨(nl rfl), (nl rfl)⟩ rfl (fun v9 w9 hu => ?_)
              obtain ⟨b2_158, f2_159, R_160, rfl, rfl, u_161, u_162, u_163⟩ := hu
              refine v_is (wn := [(h0, ob 8 [.ref xa, .ref xb, .ref xc, .ref xd, .ref xe, .ref xf, .ref xg, .int (iI 0), .int (iI 1), .int (iI vw), .ref xm, .ref xv, .int (iI vg), .ref xw, .int (iI b2_158), .int (iI 1), .ref xq, .int (iI ve), .int (iI vf), .int (iI vu), .int (iI vl), .ref xr, .ref xh, .ref xo, .ref xp, .int (iI vr), .int (iI va), .int (iI vt), .int (iI vm), .int (iI vd), .int (iI vx)]), (xw, aI g 72000 f2_159), (xv, aZ g 72000 fg), (xa, aI g 64 (lfT mW 64)), (xb, aI g 64 (lfT mB 64)), (xc, aI g 27 (lfT mWM 27)), (xd, aI g 27 (lfT mBM 27)), (xe, aI g 13 (lfT mBO 13))]) (cn := 0) (sn := 0) (sn2 := []) rfl rfl rfl rfl ?_
              have hRB : RowB 1 vw AA lnn y R_160 := Or.inr ⟨hof, u_163⟩
              have hER := EncR_as u_162
              have hcR := EncR_c hER
              have hcP := EncR_c hi17_2
              have hpl := preB_l (kd := 1) (one := oneF 1 y) (by omega)
              have L130 : ∀ (N : Nat) (b3 : Int) (f3 : Nat → Int32) (j : Int), (0 ≤ b3 ∧ b3 ≤ 21060 * (y + 1)) → (b3 = b2_158 + j ∧ 0 ≤ j) → (j = 0 ∨ b3 - (b2_138 + 1) ≤ vf) → (EncR f3 (7 - 7 * vl) b3 ((P ++ (preB 1 (oneF 1 y) ++ R_160)) ++ List.replicate j.toNat false)) → (((b2_138 + 1) + vf - b3).toNat) < N → V p9 l e9 (rmD 5 0 0) s9 m9 ag9 bl9 mt9 c9 4 g A9 (MQ bl9 (cQ g (po_c_X8_encode_e g h0 xa xb xc xd xe xf xg xm xv xw xq xr xh xo xp vc 1 vw vg vb vi ve vf vu vl vr va vt vm vd vx f fg AA lnn) A9) ag9 s9 0 0 A9) [(h0, ob 8 [.ref xa, .ref xb, .ref xc, .ref xd, .ref xe, .ref xf, .ref xg, .int (iI 0), .int (iI 1), .int (iI vw), .ref xm, .ref xv, .int (iI vg), .ref xw, .int (iI b3), .int (iI 1), .ref xq, .int (iI ve), .int (iI vf), .int (iI vu), .int (iI vl), .ref xr, .ref xh, .ref xo, .ref xp, .int (iI vr), .int (iI va), .int (iI vt), .int (iI vm), .int (iI vd), .int (iI vx)]), (xw, aI g 72000 f3), (xv, aZ g 72000 fg), (xa, aI g 64 (lfT mW 64)), (xb, aI g 64 (lfT mB 64)), (xc, aI g 27 (lfT mWM 27)), (xd, aI g 27 (lfT mBM 27)), (xe, aI g 13 (lfT mBO 13))] 0 0 [(0, .ref h0), (1, .int (iI y)), (3, .int (iI (b2_138 + 1)))] 130 [] := by
                intro N
                induction N with
                | zero => intro b3 f3 j hi130_0 hi130_1 hi130_2 hi130_3 hN; exact absurd hN (Nat.not_lt_zero _)
                | succ N ihL130 =>
                  intro b3 f3 j hi130_0 hi130_1 hi130_2 hi130_3 hN130
                  refine v_aload_n fx 0 dX8_encode_130 rfl rfl ?_
                  refine v_get fx 0 8 inX8 k1004 dX8_encode_131 rfl rfl (by decide) rfl rfl rfl ?_
                  refine v_iconst fx dX8_encode_134 rfl ?_
                  refine v_icmp_ge fx 159 dX8_encode_135 (by decide) rfl (by omega) (by omega) (fun h0 => absurd h0 (by omega)) (fun h_164 => ?_)
                  refine v_aload_n fx 0 dX8_encode_138 rfl rfl ?_
                  refine v_get fx 0 14 inX8 k1010 dX8_encode_139 rfl rfl (by decide) rfl rfl rfl ?_
                  refine v_iload_n fx 2 dX8_encode_142 rfl rfl ?_
                  refine v_isub fx (b3 - (b2_138 + 1)) dX8_encode_143 (by rfl) rfl ?_
                  refine v_aload_n fx 0 dX8_encode_144 rfl rfl ?_
                  refine v_get fx 0 18 inX8 k1014 dX8_encode_145 rfl rfl (by decide) rfl rfl rfl ?_
                  refine v_icmp_ge fx 159 dX8_encode_148 (by decide) rfl (by omega) (by omega) (fun h_165 => ?_) (fun h_165 => ?_)
                  ·
                    refine v_iinc fx 1 (y + 1) [(1, .int (iI (y + 1))), (0, .ref h0), (3, .int (iI (b2_138 + 1)))] dX8_encode_159 rfl (by omega) (by decide) rfl rfl ?_
                    refine v_goto fx 17 dX8_encode_162 (by decide) ?_
                    refine v_lv [1, 0] [(0, .ref h0), (1, .int (iI (y + 1)))] rfl ?_
                    exact ihL17 (y + 1) b3 f3 (P ++ (preB 1 (oneF 1 y) ++ (R_160 ++ fillB 1 vf R_160))) (by omega) (by omega) (by exact EncR_eq hi130_3 (by rw [fill_R2 (fl := vf) hcR hcP (by omega)]; simp only [List.append_assoc])) (by exact Doc_step hi17_3 (by omega) hRB) (by omega)
                  ·
                    refine v_aload_n fx 0 dX8_encode_151 rfl rfl ?_
                    refine v_iconst fx dX8_encode_152 rfl ?_
                    refine v_callV (As := [.int (iI 0)]) (rest := []) fx [0, 1] [2, 3, 4, 5, 6, 7] [(h0, ob 8 [.ref xa, .ref xb, .ref xc, .ref xd, .ref xe, .ref xf, .ref xg, .int (iI 0), .int (iI 1), .int (iI vw), .ref xm, .ref xv, .int (iI vg), .ref xw, .int (iI b3), .int (iI 1), .ref xq, .int (iI ve), .int (iI vf), .int (iI vu), .int (iI vl), .ref xr, .ref xh, .ref xo, .ref xp, .int (iI vr), .int (iI va), .int (iI vt), .int (iI vm), .int (iI vd), .int (iI vx)]), (xw, aI g 72000 f3)] [(xv, aZ g 72000 fg), (xa, aI g 64 (lfT mW 64)), (xb, aI g 64 (lfT mB 64)), (xc, aI g 27 (lfT mWM 27)), (xd, aI g 27 (lfT mBM 27)), (xe, aI g 13 (lfT mBO 13))] 1 0 (c_X8_bit_e l g h0 xa xb xc xd xe xf xg xm xv xw xq xr xh xo xp 0 1 vw vg b3 1 ve vf vu vl vr va vt vm vd vx f3 0 ((P ++ (preB 1 (oneF 1 y) ++ R_160)) ++ List.replicate j.toNat false) (by first | omega | decide | assumption) (by first | omega | decide | assumption) (by first | omega | decide | assumption) (by exact hi130_3)) dX8_encode_153 k1110 k1112 k23 k57 k1113 ykX8_bit rfl rfl rfl rfl rfl rfl rfl rfl (nl rfl) ⟨nl rfl, nl rfl⟩ ⟨(nl rfl), (nl rfl)⟩ rfl (fun v9 w9 hu => ?_)
                    obtain ⟨f2_166, rfl, rfl, u_167⟩ := hu
                    refine v_is (wn := [(xv, aZ g 72000 fg), (xa, aI g 64 (lfT mW 64)), (xb, aI g 64 (lfT mB 64)), (xc, aI g 27 (lfT mWM 27)), (xd, aI g 27 (lfT mBM 27)), (xe, aI g 13 (lfT mBO 13)), (h0, ob 8 [.ref xa, .ref xb, .ref xc, .ref xd, .ref xe, .ref xf, .ref xg, .int (iI 0), .int (iI 1), .int (iI vw), .ref xm, .ref xv, .int (iI vg), .ref xw, .int (iI (b3 + 1)), .int (iI 1), .ref xq, .int (iI ve), .int (iI vf), .int (iI vu), .int (iI vl), .ref xr, .ref xh, .ref xo, .ref xp, .int (iI vr), .int (iI va), .int (iI vt), .int (iI vm), .int (iI vd), .int (iI vx)]), (xw, aI g 72000 f2_166)]) (cn := 0) (sn := 0) (sn2 := []) rfl rfl rfl rfl ?_
                    refine v_goto fx 130 dX8_encode_156 (by decide) ?_
                    refine v_ws [6, 7, 0, 1, 2, 3, 4, 5] [(h0, ob 8 [.ref xa, .ref xb, .ref xc, .ref xd, .ref xe, .ref xf, .ref xg, .int (iI 0), .int (iI 1), .int (iI vw), .ref xm, .ref xv, .int (iI vg), .ref xw, .int (iI (b3 + 1)), .int (iI 1), .ref xq, .int (iI ve), .int (iI vf), .int (iI vu), .int (iI vl), .ref xr, .ref xh, .ref xo, .ref xp, .int (iI vr), .int (iI va), .int (iI vt), .int (iI vm), .int (iI vd), .int (iI vx)]), (xw, aI g 72000 f2_166), (xv, aZ g 72000 fg), (xa, aI g 64 (lfT mW 64)), (xb, aI g 64 (lfT mB 64)), (xc, aI g 27 (lfT mWM 27)), (xd, aI g 27 (lfT mBM 27)), (xe, aI g 13 (lfT mBO 13))] rfl rfl ?_
                    exact ihL130 (b3 + 1) f2_166 (j + 1) (by omega) (by omega) (by omega) (by exact bit_0 (by assumption) (by omega)) (by omega)
              refine v_lv [2, 3, 0] [(0, .ref h0), (1, .int (iI y)), (3, .int (iI (b2_138 + 1)))] rfl ?_
              exact L130 _ b2_158 f2_159 0 (by omega) (by omega) (by omega) (by show EncR _ _ _ (_ ++ []); rw [List.append_nil]; exact hER) (Nat.lt_succ_self _)
          ·
            refine v_iconst fx dX8_encode_46 rfl ?_
            refine v_goto fx 51 dX8_encode_47 (by decide) ?_
            refine v_istore_n fx [(2, .int (iI 1)), (0, .ref h0), (1, .int (iI y))] dX8_encode_51 (by decide) rfl rfl ?_
            refine v_aload_n fx 1 dX8_encode_52 rfl rfl ?_
            refine v_get fx 0 8 inX8 k1004 dX8_encode_53 rfl rfl (by decide) rfl rfl rfl ?_
            refine v_iconst fx dX8_encode_56 rfl ?_
            refine v_icmp_ge fx 64 dX8_encode_57 (by decide) rfl (by omega) (by omega) (fun h0 => absurd h0 (by omega)) (fun h_168 => ?_)
            refine v_aload_n fx 1 dX8_encode_60 rfl rfl ?_
            refine v_callV (As := []) (rest := []) fx [0, 1] [2, 3, 4, 5, 6, 7] [(h0, ob 8 [.ref xa, .ref xb, .ref xc, .ref xd, .ref xe, .ref xf, .ref xg, .int (iI 0), .int (iI 1), .int (iI vw), .ref xm, .ref xv, .int (iI vg), .ref xw, .int (iI b1), .int (iI 1), .ref xq, .int (iI ve), .int (iI vf), .int (iI vu), .int (iI vl), .ref xr, .ref xh, .ref xo, .ref xp, .int (iI vr), .int (iI va), .int (iI vt), .int (iI vm), .int (iI vd), .int (iI vx)]), (xw, aI g 72000 f1)] [(xv, aZ g 72000 fg), (xa, aI g 64 (lfT mW 64)), (xb, aI g 64 (lfT mB 64)), (xc, aI g 27 (lfT mWM 27)), (xd, aI g 27 (lfT mBM 27)), (xe, aI g 13 (lfT mBO 13))] 0 0 (c_X8_mark_e l g h0 xa xb xc xd xe xf xg xm xv xw xq xr xh xo xp 0 1 vw vg b1 1 ve vf vu vl vr va vt vm vd vx f1 P (by first | omega | decide | assumption) (by first | omega | decide | assumption) (by assumption)) dX8_encode_61 k1102 k1104 k21 k57 k1105 ykX8_mark rfl rfl rfl rfl rfl rfl rfl rfl (nl rfl) ⟨nl rfl, nl rfl⟩ ⟨(nl rfl), (nl rfl)⟩ rfl (fun v9 w9 hu => ?_)
            obtain ⟨b2_169, f2_170, rfl, rfl, u_171, u_172⟩ := hu
            refine v_is (wn := [(xv, aZ g 72000 fg), (xa, aI g 64 (lfT mW 64)), (xb, aI g 64 (lfT mB 64)), (xc, aI g 27 (lfT mWM 27)), (xd, aI g 27 (lfT mBM 27)), (xe, aI g 13 (lfT mBO 13)), (h0, ob 8 [.ref xa, .ref xb, .ref xc, .ref xd, .ref xe, .ref xf, .ref xg, .int (iI 0), .int (iI 1), .int (iI vw), .ref xm, .ref xv, .int (iI vg), .ref xw, .int (iI b2_169), .int (iI 1), .ref xq, .int (iI ve), .int (iI vf), .int (iI vu), .int (iI vl), .ref xr, .ref xh, .ref xo, .ref xp, .int (iI vr), .int (iI va), .int (iI vt), .int (iI vm), .int (iI vd), .int (iI vx)]), (xw, aI g 72000 f2_170)]) (cn := 0) (sn := 0) (sn2 := []) rfl rfl rfl rfl ?_
            refine v_aload_n fx 1 dX8_encode_64 rfl rfl ?_
            refine v_get fx 6 8 inX8 k1004 dX8_encode_65 rfl rfl (by decide) rfl rfl rfl ?_
            refine v_iconst fx dX8_encode_68 rfl ?_
            refine v_icmp_ne fx 85 dX8_encode_69 (by decide) rfl (by omega) (by omega) (fun h0 => absurd h0 (by omega)) (fun h_173 => ?_)
            refine v_aload_n fx 1 dX8_encode_72 rfl rfl ?_
            refine v_iload_n fx 0 dX8_encode_73 rfl rfl ?_
            refine v_if_eq fx 81 dX8_encode_74 (by decide) rfl (by omega) (fun h0 => absurd h0 (by omega)) (fun h_174 => ?_)
            refine v_iconst fx dX8_encode_77 rfl ?_
            refine v_goto fx 82 dX8_encode_78 (by decide) ?_
            refine v_callV (As := [.int (iI 1)]) (rest := []) fx [6, 7] [0, 1, 2, 3, 4, 5] [(h0, ob 8 [.ref xa, .ref xb, .ref xc, .ref xd, .ref xe, .ref xf, .ref xg, .int (iI 0), .int (iI 1), .int (iI vw), .ref xm, .ref xv, .int (iI vg), .ref xw, .int (iI b2_169), .int (iI 1), .ref xq, .int (iI ve), .int (iI vf), .int (iI vu), .int (iI vl), .ref xr, .ref xh, .ref xo, .ref xp, .int (iI vr), .int (iI va), .int (iI vt), .int (iI vm), .int (iI vd), .int (iI vx)]), (xw, aI g 72000 f2_170)] [(xv, aZ g 72000 fg), (xa, aI g 64 (lfT mW 64)), (xb, aI g 64 (lfT mB 64)), (xc, aI g 27 (lfT mWM 27)), (xd, aI g 27 (lfT mBM 27)), (xe, aI g 13 (lfT mBO 13))] 1 0 (c_X8_bit_e l g h0 xa xb xc xd xe xf xg xm xv xw xq xr xh xo xp 0 1 vw vg b2_169 1 ve vf vu vl vr va vt vm vd vx f2_170 1 ((P) ++ codeB 4097) (by first | omega | decide | assumption) (by first | omega | decide | assumption) (by first | omega | decide | assumption) (by assumption)) dX8_encode_82 k1110 k1112 k23 k57 k1113 ykX8_bit rfl rfl rfl rfl rfl rfl rfl rfl (nl rfl) ⟨nl rfl, nl rfl⟩ ⟨(nl rfl), (nl rfl)⟩ rfl (fun v9 w9 hu => ?_)
            obtain ⟨f2_175, rfl, rfl, u_176⟩ := hu
            refine v_is (wn := [(xv, aZ g 72000 fg), (xa, aI g 64 (lfT mW 64)), (xb, aI g 64 (lfT mB 64)), (xc, aI g 27 (lfT mWM 27)), (xd, aI g 27 (lfT mBM 27)), (xe, aI g 13 (lfT mBO 13)), (h0, ob 8 [.ref xa, .ref xb, .ref xc, .ref xd, .ref xe, .ref xf, .ref xg, .int (iI 0), .int (iI 1), .int (iI vw), .ref xm, .ref xv, .int (iI vg), .ref xw, .int (iI (b2_169 + 1)), .int (iI 1), .ref xq, .int (iI ve), .int (iI vf), .int (iI vu), .int (iI vl), .ref xr, .ref xh, .ref xo, .ref xp, .int (iI vr), .int (iI va), .int (iI vt), .int (iI vm), .int (iI vd), .int (iI vx)]), (xw, aI g 72000 f2_175)]) (cn := 0) (sn := 0) (sn2 := []) rfl rfl rfl rfl ?_
            refine v_aload_n fx 1 dX8_encode_85 rfl rfl ?_
            refine v_get fx 6 14 inX8 k1010 dX8_encode_86 rfl rfl (by decide) rfl rfl rfl ?_
            refine v_istore_n fx [(3, .int (iI (b2_169 + 1))), (2, .int (iI 1)), (0, .ref h0), (1, .int (iI y))] dX8_encode_89 (by decide) rfl rfl ?_
            refine v_iload_n fx 1 dX8_encode_90 rfl rfl ?_
            refine v_if_eq fx 106 dX8_encode_91 (by decide) rfl (by omega) (fun h0 => absurd h0 (by omega)) (fun h_177 => ?_)
            have hof := one_F (kd := 1) (y := y) (by omega)
            refine v_aload_n fx 2 dX8_encode_94 rfl rfl ?_
            refine v_sipush fx dX8_encode_95 (by decide +kernel) rfl ?_
            refine v_iload_n fx 3 dX8_encode_98 rfl rfl ?_
            refine v_imul fx (3000 * y) dX8_encode_99 (by rfl) rfl ?_
            refine v_callV (As := [.int (iI (3000 * y))]) (rest := []) fx [6, 7, 0, 1, 2, 3, 4, 5] [] [(h0, ob 8 [.ref xa, .ref xb, .ref xc, .ref xd, .ref xe, .ref xf, .ref xg, .int (iI 0), .int (iI 1), .int (iI vw), .ref xm, .ref xv, .int (iI vg), .ref xw, .int (iI (b2_169 + 1)), .int (iI 1), .ref xq, .int (iI ve), .int (iI vf), .int (iI vu), .int (iI vl), .ref xr, .ref xh, .ref xo, .ref xp, .int (iI vr), .int (iI va), .int (iI vt), .int (iI vm), .int (iI vd), .int (iI vx)]), (xw, aI g 72000 f2_175), (xv, aZ g 72000 fg), (xa, aI g 64 (lfT mW 64)), (xb, aI g 64 (lfT mB 64)), (xc, aI g 27 (lfT mWM 27)), (xd, aI g 27 (lfT mBM 27)), (xe, aI g 13 (lfT mBO 13))] [] 1 0 (c_X8_oneDimension_e l g h0 xa xb xc xd xe xf xg xm xv xw xq xr xh xo xp 0 1 vw vg (b2_169 + 1) 1 ve vf vu vl vr va vt vm vd vx f2_175 fg (3000 * y) (P ++ preB 1 (oneF 1 y)) (AA y) (lnn y) (by first | omega | decide | assumption) (by first | omega | decide | assumption) (by first | omega | decide | assumption) (by first | omega | decide | assumption) (by exact SmpR_at hp5 (by omega)) (by exact EncR_eq (by assumption) (by first | (rw [← preB_0]) | (rw [← preB_2, List.append_nil]) | (rw [hof, ← preB_1 (one := 1) (x := 1) (by omega), List.append_assoc]) | (rw [hof, ← preB_1 (one := 0) (x := 0) (by omega), List.append_assoc])))) dX8_encode_100 k1114 k1116 k24 k57 k1117 ykX8_oneDimension rfl rfl rfl rfl rfl rfl rfl rfl (nl rfl) ⟨nl rfl, nl rfl⟩ ⟨(nl rfl), (nl rfl)⟩ rfl (fun v9 w9 hu => ?_)
            obtain ⟨b2_178, f2_179, rfl, rfl, u_180, u_181⟩ := hu
            refine v_is (wn := [(h0, ob 8 [.ref xa, .ref xb, .ref xc, .ref xd, .ref xe, .ref xf, .ref xg, .int (iI 0), .int (iI 1), .int (iI vw), .ref xm, .ref xv, .int (iI vg), .ref xw, .int (iI b2_178), .int (iI 1), .ref xq, .int (iI ve), .int (iI vf), .int (iI vu), .int (iI vl), .ref xr, .ref xh, .ref xo, .ref xp, .int (iI vr), .int (iI va), .int (iI vt), .int (iI vm), .int (iI vd), .int (iI vx)]), (xw, aI g 72000 f2_179), (xv, aZ g 72000 fg), (xa, aI g 64 (lfT mW 64)), (xb, aI g 64 (lfT mB 64)), (xc, aI g 27 (lfT mWM 27)), (xd, aI g 27 (lfT mBM 27)), (xe, aI g 13 (lfT mBO 13))]) (cn := 0) (sn := 0) (sn2 := []) rfl rfl rfl rfl ?_
            have hRB : RowB 1 vw AA lnn y (oneUp (AA y) (lnn y + 1).toNat) := Or.inl ⟨hof, rfl⟩
            have hER := EncR_as u_181
            have hcR := EncR_c hER
            have hcP := EncR_c hi17_2
            have hpl := preB_l (kd := 1) (one := oneF 1 y) (by omega)
            refine v_goto fx 130 dX8_encode_103 (by decide) ?_
            have L130 : ∀ (N : Nat) (b3 : Int) (f3 : Nat → Int32) (j : Int), (0 ≤ b3 ∧ b3 ≤ 21060 * (y + 1)) → (b3 = b2_178 + j ∧ 0 ≤ j) → (j = 0 ∨ b3 - (b2_169 + 1) ≤ vf) → (EncR f3 (7 - 7 * vl) b3 ((P ++ (preB 1 (oneF 1 y) ++ (oneUp (AA y) (lnn y + 1).toNat))) ++ List.replicate j.toNat false)) → (((b2_169 + 1) + vf - b3).toNat) < N → V p9 l e9 (rmD 5 0 0) s9 m9 ag9 bl9 mt9 c9 4 g A9 (MQ bl9 (cQ g (po_c_X8_encode_e g h0 xa xb xc xd xe xf xg xm xv xw xq xr xh xo xp vc 1 vw vg vb vi ve vf vu vl vr va vt vm vd vx f fg AA lnn) A9) ag9 s9 0 0 A9) [(h0, ob 8 [.ref xa, .ref xb, .ref xc, .ref xd, .ref xe, .ref xf, .ref xg, .int (iI 0), .int (iI 1), .int (iI vw), .ref xm, .ref xv, .int (iI vg), .ref xw, .int (iI b3), .int (iI 1), .ref xq, .int (iI ve), .int (iI vf), .int (iI vu), .int (iI vl), .ref xr, .ref xh, .ref xo, .ref xp, .int (iI vr), .int (iI va), .int (iI vt), .int (iI vm), .int (iI vd), .int (iI vx)]), (xw, aI g 72000 f3), (xv, aZ g 72000 fg), (xa, aI g 64 (lfT mW 64)), (xb, aI g 64 (lfT mB 64)), (xc, aI g 27 (lfT mWM 27)), (xd, aI g 27 (lfT mBM 27)), (xe, aI g 13 (lfT mBO 13))] 0 0 [(0, .ref h0), (1, .int (iI y)), (3, .int (iI (b2_169 + 1)))] 130 [] := by
              intro N
              induction N with
              | zero => intro b3 f3 j hi130_0 hi130_1 hi130_2 hi130_3 hN; exact absurd hN (Nat.not_lt_zero _)
              | succ N ihL130 =>
                intro b3 f3 j hi130_0 hi130_1 hi130_2 hi130_3 hN130
                refine v_aload_n fx 0 dX8_encode_130 rfl rfl ?_
                refine v_get fx 0 8 inX8 k1004 dX8_encode_131 rfl rfl (by decide) rfl rfl rfl ?_
                refine v_iconst fx dX8_encode_134 rfl ?_
                refine v_icmp_ge fx 159 dX8_encode_135 (by decide) rfl (by omega) (by omega) (fun h0 => absurd h0 (by omega)) (fun h_182 => ?_)
                refine v_aload_n fx 0 dX8_encode_138 rfl rfl ?_
                refine v_get fx 0 14 inX8 k1010 dX8_encode_139 rfl rfl (by decide) rfl rfl rfl ?_
                refine v_iload_n fx 2 dX8_encode_142 rfl rfl ?_
                refine v_isub fx (b3 - (b2_169 + 1)) dX8_encode_143 (by rfl) rfl ?_
                refine v_aload_n fx 0 dX8_encode_144 rfl rfl ?_
                refine v_get fx 0 18 inX8 k1014 dX8_encode_145 rfl rfl (by decide) rfl rfl rfl ?_
                refine v_icmp_ge fx 159 dX8_encode_148 (by decide) rfl (by omega) (by omega) (fun h_183 => ?_) (fun h_183 => ?_)
                ·
                  refine v_iinc fx 1 (y + 1) [(1, .int (iI (y + 1))), (0, .ref h0), (3, .int (iI (b2_169 + 1)))] dX8_encode_159 rfl (by omega) (by decide) rfl rfl ?_
                  refine v_goto fx 17 dX8_encode_162 (by decide) ?_
                  refine v_lv [1, 0] [(0, .ref h0), (1, .int (iI (y + 1)))] rfl ?_
                  exact ihL17 (y + 1) b3 f3 (P ++ (preB 1 (oneF 1 y) ++ ((oneUp (AA y) (lnn y + 1).toNat) ++ fillB 1 vf (oneUp (AA y) (lnn y + 1).toNat)))) (by omega) (by omega) (by exact EncR_eq hi130_3 (by rw [fill_R2 (fl := vf) hcR hcP (by omega)]; simp only [List.append_assoc])) (by exact Doc_step hi17_3 (by omega) hRB) (by omega)
                ·
                  refine v_aload_n fx 0 dX8_encode_151 rfl rfl ?_
                  refine v_iconst fx dX8_encode_152 rfl ?_
                  refine v_callV (As := [.int (iI 0)]) (rest := []) fx [0, 1] [2, 3, 4, 5, 6, 7] [(h0, ob 8 [.ref xa, .ref xb, .ref xc, .ref xd, .ref xe, .ref xf, .ref xg, .int (iI 0), .int (iI 1), .int (iI vw), .ref xm, .ref xv, .int (iI vg), .ref xw, .int (iI b3), .int (iI 1), .ref xq, .int (iI ve), .int (iI vf), .int (iI vu), .int (iI vl), .ref xr, .ref xh, .ref xo, .ref xp, .int (iI vr), .int (iI va), .int (iI vt), .int (iI vm), .int (iI vd), .int (iI vx)]), (xw, aI g 72000 f3)] [(xv, aZ g 72000 fg), (xa, aI g 64 (lfT mW 64)), (xb, aI g 64 (lfT mB 64)), (xc, aI g 27 (lfT mWM 27)), (xd, aI g 27 (lfT mBM 27)), (xe, aI g 13 (lfT mBO 13))] 1 0 (c_X8_bit_e l g h0 xa xb xc xd xe xf xg xm xv xw xq xr xh xo xp 0 1 vw vg b3 1 ve vf vu vl vr va vt vm vd vx f3 0 ((P ++ (preB 1 (oneF 1 y) ++ (oneUp (AA y) (lnn y + 1).toNat))) ++ List.replicate j.toNat false) (by first | omega | decide | assumption) (by first | omega | decide | assumption) (by first | omega | decide | assumption) (by exact hi130_3)) dX8_encode_153 k1110 k1112 k23 k57 k1113 ykX8_bit rfl rfl rfl rfl rfl rfl rfl rfl (nl rfl) ⟨nl rfl, nl rfl⟩ ⟨(nl rfl), (nl rfl)⟩ rfl (fun v9 w9 hu => ?_)
                  obtain ⟨f2_184, rfl, rfl, u_185⟩ := hu
                  refine v_is (wn := [(xv, aZ g 72000 fg), (xa, aI g 64 (lfT mW 64)), (xb, aI g 64 (lfT mB 64)), (xc, aI g 27 (lfT mWM 27)), (xd, aI g 27 (lfT mBM 27)), (xe, aI g 13 (lfT mBO 13)), (h0, ob 8 [.ref xa, .ref xb, .ref xc, .ref xd, .ref xe, .ref xf, .ref xg, .int (iI 0), .int (iI 1), .int (iI vw), .ref xm, .ref xv, .int (iI vg), .ref xw, .int (iI (b3 + 1)), .int (iI 1), .ref xq, .int (iI ve), .int (iI vf), .int (iI vu), .int (iI vl), .ref xr, .ref xh, .ref xo, .ref xp, .int (iI vr), .int (iI va), .int (iI vt), .int (iI vm), .int (iI vd), .int (iI vx)]), (xw, aI g 72000 f2_184)]) (cn := 0) (sn := 0) (sn2 := []) rfl rfl rfl rfl ?_
                  refine v_goto fx 130 dX8_encode_156 (by decide) ?_
                  refine v_ws [6, 7, 0, 1, 2, 3, 4, 5] [(h0, ob 8 [.ref xa, .ref xb, .ref xc, .ref xd, .ref xe, .ref xf, .ref xg, .int (iI 0), .int (iI 1), .int (iI vw), .ref xm, .ref xv, .int (iI vg), .ref xw, .int (iI (b3 + 1)), .int (iI 1), .ref xq, .int (iI ve), .int (iI vf), .int (iI vu), .int (iI vl), .ref xr, .ref xh, .ref xo, .ref xp, .int (iI vr), .int (iI va), .int (iI vt), .int (iI vm), .int (iI vd), .int (iI vx)]), (xw, aI g 72000 f2_184), (xv, aZ g 72000 fg), (xa, aI g 64 (lfT mW 64)), (xb, aI g 64 (lfT mB 64)), (xc, aI g 27 (lfT mWM 27)), (xd, aI g 27 (lfT mBM 27)), (xe, aI g 13 (lfT mBO 13))] rfl rfl ?_
                  exact ihL130 (b3 + 1) f2_184 (j + 1) (by omega) (by omega) (by omega) (by exact bit_0 (by assumption) (by omega)) (by omega)
            refine v_lv [2, 3, 0] [(0, .ref h0), (1, .int (iI y)), (3, .int (iI (b2_169 + 1)))] rfl ?_
            exact L130 _ b2_178 f2_179 0 (by omega) (by omega) (by omega) (by show EncR _ _ _ (_ ++ []); rw [List.append_nil]; exact hER) (Nat.lt_succ_self _)
        ·
          refine v_aload_n fx 0 dX8_encode_25 rfl rfl ?_
          refine v_get fx 0 8 inX8 k1004 dX8_encode_26 rfl rfl (by decide) rfl rfl rfl ?_
          refine v_if_eq fx 46 dX8_encode_29 (by decide) rfl (by omega) (fun h0 => absurd h0 (by omega)) (fun h_186 => ?_)
          refine v_aload_n fx 0 dX8_encode_32 rfl rfl ?_
          refine v_get fx 0 8 inX8 k1004 dX8_encode_33 rfl rfl (by decide) rfl rfl rfl ?_
          refine v_iconst fx dX8_encode_36 rfl ?_
          refine v_icmp_ne fx 50 dX8_encode_37 (by decide) rfl (by omega) (by omega) (fun h_187 => ?_) (fun h0 => absurd h0 (by omega))
          refine v_iconst fx dX8_encode_50 rfl ?_
          refine v_istore_n fx [(2, .int (iI 0)), (0, .ref h0), (1, .int (iI y))] dX8_encode_51 (by decide) rfl rfl ?_
          refine v_aload_n fx 1 dX8_encode_52 rfl rfl ?_
          refine v_get fx 0 8 inX8 k1004 dX8_encode_53 rfl rfl (by decide) rfl rfl rfl ?_
          refine v_iconst fx dX8_encode_56 rfl ?_
          refine v_icmp_ge fx 64 dX8_encode_57 (by decide) rfl (by omega) (by omega) (fun h_188 => ?_) (fun h0 => absurd h0 (by omega))
          refine v_aload_n fx 1 dX8_encode_64 rfl rfl ?_
          refine v_get fx 0 8 inX8 k1004 dX8_encode_65 rfl rfl (by decide) rfl rfl rfl ?_
          refine v_iconst fx dX8_encode_68 rfl ?_
          refine v_icmp_ne fx 85 dX8_encode_69 (by decide) rfl (by omega) (by omega) (fun h_189 => ?_) (fun h0 => absurd h0 (by omega))
          refine v_aload_n fx 1 dX8_encode_85 rfl rfl ?_
          refine v_get fx 0 14 inX8 k1010 dX8_encode_86 rfl rfl (by decide) rfl rfl rfl ?_
          refine v_istore_n fx [(3, .int (iI b1)), (2, .int (iI 0)), (0, .ref h0), (1, .int (iI y))] dX8_encode_89 (by decide) rfl rfl ?_
          refine v_iload_n fx 1 dX8_encode_90 rfl rfl ?_
          refine v_if_eq fx 106 dX8_encode_91 (by decide) rfl (by omega) (fun h_190 => ?_) (fun h0 => absurd h0 (by omega))
          have hof := two_F (kd := 2) (y := y) (by omega)
          refine v_aload_n fx 2 dX8_encode_106 rfl rfl ?_
          refine v_sipush fx dX8_encode_107 (by decide +kernel) rfl ?_
          refine v_iload_n fx 3 dX8_encode_110 rfl rfl ?_
          refine v_imul fx (3000 * y) dX8_encode_111 (by rfl) rfl ?_
          refine v_iload_n fx 3 dX8_encode_112 rfl rfl ?_
          refine v_if_ne fx 120 dX8_encode_113 (by decide) rfl (by omega) (fun h_191 => ?_) (fun h_191 => ?_)
          ·
            refine v_sipush fx dX8_encode_120 (by decide +kernel) rfl ?_
            refine v_iload_n fx 3 dX8_encode_123 rfl rfl ?_
            refine v_iconst fx dX8_encode_124 rfl ?_
            refine v_isub fx (y - 1) dX8_encode_125 (by rfl) rfl ?_
            refine v_imul fx (3000 * (y - 1)) dX8_encode_126 (by rfl) rfl ?_
            refine v_callV (As := [.int (iI (3000 * y)), .int (iI (3000 * (y - 1)))]) (rest := []) fx [0, 1, 2, 3, 4, 5, 6, 7] [] [(h0, ob 8 [.ref xa, .ref xb, .ref xc, .ref xd, .ref xe, .ref xf, .ref xg, .int (iI 0), .int (iI 2), .int (iI vw), .ref xm, .ref xv, .int (iI vg), .ref xw, .int (iI b1), .int (iI 1), .ref xq, .int (iI ve), .int (iI vf), .int (iI vu), .int (iI vl), .ref xr, .ref xh, .ref xo, .ref xp, .int (iI vr), .int (iI va), .int (iI vt), .int (iI vm), .int (iI vd), .int (iI vx)]), (xw, aI g 72000 f1), (xv, aZ g 72000 fg), (xa, aI g 64 (lfT mW 64)), (xb, aI g 64 (lfT mB 64)), (xc, aI g 27 (lfT mWM 27)), (xd, aI g 27 (lfT mBM 27)), (xe, aI g 13 (lfT mBO 13))] [] 2 0 (c_X8_twoDimensions_e l g h0 xa xb xc xd xe xf xg xm xv xw xq xr xh xo xp 0 2 vw vg b1 1 ve vf vu vl vr va vt vm vd vx f1 fg (3000 * y) (3000 * (y - 1)) (P ++ preB 2 (oneF 2 y)) (AA y) (lnn y) (AA (y - 1)) (lnn (y - 1)) (by first | omega | decide | assumption) (by first | omega | decide | assumption) (by first | omega | decide | assumption) (by first | omega | decide | assumption) (by first | omega | decide | assumption) (by exact SmpR_at hp5 (by omega)) (by exact SmpR_ab hp5 (by omega) (by omega)) (by exact EncR_eq (by assumption) (by first | (rw [← preB_0]) | (rw [← preB_2, List.append_nil]) | (rw [hof, ← preB_1 (one := 1) (x := 1) (by omega), List.append_assoc]) | (rw [hof, ← preB_1 (one := 0) (x := 0) (by omega), List.append_assoc])))) dX8_encode_127 k1126 k1128 k27 k57 k1129 ykX8_twoDimensions rfl rfl rfl rfl rfl rfl rfl rfl (nl rfl) ⟨nl rfl, nl rfl⟩ ⟨(nl rfl), (nl rfl)⟩ rfl (fun v9 w9 hu => ?_)
            obtain ⟨b2_192, f2_193, R_194, rfl, rfl, u_195, u_196, u_197⟩ := hu
            refine v_is (wn := [(h0, ob 8 [.ref xa, .ref xb, .ref xc, .ref xd, .ref xe, .ref xf, .ref xg, .int (iI 0), .int (iI 2), .int (iI vw), .ref xm, .ref xv, .int (iI vg), .ref xw, .int (iI b2_192), .int (iI 1), .ref xq, .int (iI ve), .int (iI vf), .int (iI vu), .int (iI vl), .ref xr, .ref xh, .ref xo, .ref xp, .int (iI vr), .int (iI va), .int (iI vt), .int (iI vm), .int (iI vd), .int (iI vx)]), (xw, aI g 72000 f2_193), (xv, aZ g 72000 fg), (xa, aI g 64 (lfT mW 64)), (xb, aI g 64 (lfT mB 64)), (xc, aI g 27 (lfT mWM 27)), (xd, aI g 27 (lfT mBM 27)), (xe, aI g 13 (lfT mBO 13))]) (cn := 0) (sn := 0) (sn2 := []) rfl rfl rfl rfl ?_
            have hRB : RowB 2 vw AA lnn y R_194 := Or.inr ⟨hof, u_197⟩
            have hER := EncR_as u_196
            have hcR := EncR_c hER
            have hcP := EncR_c hi17_2
            have hpl := preB_l (kd := 2) (one := oneF 2 y) (by omega)
            have L130 : ∀ (N : Nat) (b3 : Int) (f3 : Nat → Int32) (j : Int), (0 ≤ b3 ∧ b3 ≤ 21060 * (y + 1)) → (b3 = b2_192 + j ∧ 0 ≤ j) → (j = 0) → (EncR f3 (7 - 7 * vl) b3 ((P ++ (preB 2 (oneF 2 y) ++ R_194)) ++ List.replicate j.toNat false)) → ((b1 + vf - b3).toNat) < N → V p9 l e9 (rmD 5 0 0) s9 m9 ag9 bl9 mt9 c9 4 g A9 (MQ bl9 (cQ g (po_c_X8_encode_e g h0 xa xb xc xd xe xf xg xm xv xw xq xr xh xo xp vc 2 vw vg vb vi ve vf vu vl vr va vt vm vd vx f fg AA lnn) A9) ag9 s9 0 0 A9) [(h0, ob 8 [.ref xa, .ref xb, .ref xc, .ref xd, .ref xe, .ref xf, .ref xg, .int (iI 0), .int (iI 2), .int (iI vw), .ref xm, .ref xv, .int (iI vg), .ref xw, .int (iI b3), .int (iI 1), .ref xq, .int (iI ve), .int (iI vf), .int (iI vu), .int (iI vl), .ref xr, .ref xh, .ref xo, .ref xp, .int (iI vr), .int (iI va), .int (iI vt), .int (iI vm), .int (iI vd), .int (iI vx)]), (xw, aI g 72000 f3), (xv, aZ g 72000 fg), (xa, aI g 64 (lfT mW 64)), (xb, aI g 64 (lfT mB 64)), (xc, aI g 27 (lfT mWM 27)), (xd, aI g 27 (lfT mBM 27)), (xe, aI g 13 (lfT mBO 13))] 0 0 [(0, .ref h0), (1, .int (iI y)), (3, .int (iI b1))] 130 [] := by
              intro N
              induction N with
              | zero => intro b3 f3 j hi130_0 hi130_1 hi130_2 hi130_3 hN; exact absurd hN (Nat.not_lt_zero _)
              | succ N ihL130 =>
                intro b3 f3 j hi130_0 hi130_1 hi130_2 hi130_3 hN130
                refine v_aload_n fx 0 dX8_encode_130 rfl rfl ?_
                refine v_get fx 0 8 inX8 k1004 dX8_encode_131 rfl rfl (by decide) rfl rfl rfl ?_
                refine v_iconst fx dX8_encode_134 rfl ?_
                refine v_icmp_ge fx 159 dX8_encode_135 (by decide) rfl (by omega) (by omega) (fun h_198 => ?_) (fun h0 => absurd h0 (by omega))
                refine v_iinc fx 1 (y + 1) [(1, .int (iI (y + 1))), (0, .ref h0), (3, .int (iI b1))] dX8_encode_159 rfl (by omega) (by decide) rfl rfl ?_
                refine v_goto fx 17 dX8_encode_162 (by decide) ?_
                refine v_lv [1, 0] [(0, .ref h0), (1, .int (iI (y + 1)))] rfl ?_
                exact ihL17 (y + 1) b3 f3 (P ++ (preB 2 (oneF 2 y) ++ (R_194 ++ fillB 2 vf R_194))) (by omega) (by omega) (by exact EncR_eq hi130_3 (by rw [fill_R2 (fl := vf) hcR hcP (by omega)]; simp only [List.append_assoc])) (by exact Doc_step hi17_3 (by omega) hRB) (by omega)
            refine v_lv [2, 3, 0] [(0, .ref h0), (1, .int (iI y)), (3, .int (iI b1))] rfl ?_
            exact L130 _ b2_192 f2_193 0 (by omega) (by omega) (by omega) (by show EncR _ _ _ (_ ++ []); rw [List.append_nil]; exact hER) (Nat.lt_succ_self _)
          ·
            refine v_iconst fx dX8_encode_116 rfl ?_
            refine v_goto fx 127 dX8_encode_117 (by decide) ?_
            refine v_callV (As := [.int (iI (3000 * y)), .int (iI (-1))]) (rest := []) fx [0, 1, 2, 3, 4, 5, 6, 7] [] [(h0, ob 8 [.ref xa, .ref xb, .ref xc, .ref xd, .ref xe, .ref xf, .ref xg, .int (iI 0), .int (iI 2), .int (iI vw), .ref xm, .ref xv, .int (iI vg), .ref xw, .int (iI b1), .int (iI 1), .ref xq, .int (iI ve), .int (iI vf), .int (iI vu), .int (iI vl), .ref xr, .ref xh, .ref xo, .ref xp, .int (iI vr), .int (iI va), .int (iI vt), .int (iI vm), .int (iI vd), .int (iI vx)]), (xw, aI g 72000 f1), (xv, aZ g 72000 fg), (xa, aI g 64 (lfT mW 64)), (xb, aI g 64 (lfT mB 64)), (xc, aI g 27 (lfT mWM 27)), (xd, aI g 27 (lfT mBM 27)), (xe, aI g 13 (lfT mBO 13))] [] 2 0 (c_X8_twoDimensions_e l g h0 xa xb xc xd xe xf xg xm xv xw xq xr xh xo xp 0 2 vw vg b1 1 ve vf vu vl vr va vt vm vd vx f1 fg (3000 * y) (-1) (P ++ preB 2 (oneF 2 y)) (AA y) (lnn y) (AA (y - 1)) (lnn (y - 1)) (by first | omega | decide | assumption) (by first | omega | decide | assumption) (by first | omega | decide | assumption) (by first | omega | decide | assumption) (by first | omega | decide | assumption) (by exact SmpR_at hp5 (by omega)) (by exact SmpR_ab hp5 (by omega) (by omega)) (by exact EncR_eq (by assumption) (by first | (rw [← preB_0]) | (rw [← preB_2, List.append_nil]) | (rw [hof, ← preB_1 (one := 1) (x := 1) (by omega), List.append_assoc]) | (rw [hof, ← preB_1 (one := 0) (x := 0) (by omega), List.append_assoc])))) dX8_encode_127 k1126 k1128 k27 k57 k1129 ykX8_twoDimensions rfl rfl rfl rfl rfl rfl rfl rfl (nl rfl) ⟨nl rfl, nl rfl⟩ ⟨(nl rfl), (nl rfl)⟩ rfl (fun v9 w9 hu => ?_)
            obtain ⟨b2_199, f2_200, R_201, rfl, rfl, u_202, u_203, u_204⟩ := hu
            refine v_is (wn := [(h0, ob 8 [.ref xa, .ref xb, .ref xc, .ref xd, .ref xe, .ref xf, .ref xg, .int (iI 0), .int (iI 2), .int (iI vw), .ref xm, .ref xv, .int (iI vg), .ref xw, .int (iI b2_199), .int (iI 1), .ref xq, .int (iI ve), .int (iI vf), .int (iI vu), .int (iI vl), .ref xr, .ref xh, .ref xo, .ref xp, .int (iI vr), .int (iI va), .int (iI vt), .int (iI vm), .int (iI vd), .int (iI vx)]), (xw, aI g 72000 f2_200), (xv, aZ g 72000 fg), (xa, aI g 64 (lfT mW 64)), (xb, aI g 64 (lfT mB 64)), (xc, aI g 27 (lfT mWM 27)), (xd, aI g 27 (lfT mBM 27)), (xe, aI g 13 (lfT mBO 13))]) (cn := 0) (sn := 0) (sn2 := []) rfl rfl rfl rfl ?_
            have hRB : RowB 2 vw AA lnn y R_201 := Or.inr ⟨hof, u_204⟩
            have hER := EncR_as u_203
            have hcR := EncR_c hER
            have hcP := EncR_c hi17_2
            have hpl := preB_l (kd := 2) (one := oneF 2 y) (by omega)
            have L130 : ∀ (N : Nat) (b3 : Int) (f3 : Nat → Int32) (j : Int), (0 ≤ b3 ∧ b3 ≤ 21060 * (y + 1)) → (b3 = b2_199 + j ∧ 0 ≤ j) → (j = 0) → (EncR f3 (7 - 7 * vl) b3 ((P ++ (preB 2 (oneF 2 y) ++ R_201)) ++ List.replicate j.toNat false)) → ((b1 + vf - b3).toNat) < N → V p9 l e9 (rmD 5 0 0) s9 m9 ag9 bl9 mt9 c9 4 g A9 (MQ bl9 (cQ g (po_c_X8_encode_e g h0 xa xb xc xd xe xf xg xm xv xw xq xr xh xo xp vc 2 vw vg vb vi ve vf vu vl vr va vt vm vd vx f fg AA lnn) A9) ag9 s9 0 0 A9) [(h0, ob 8 [.ref xa, .ref xb, .ref xc, .ref xd, .ref xe, .ref xf, .ref xg, .int (iI 0), .int (iI 2), .int (iI vw), .ref xm, .ref xv, .int (iI vg), .ref xw, .int (iI b3), .int (iI 1), .ref xq, .int (iI ve), .int (iI vf), .int (iI vu), .int (iI vl), .ref xr, .ref xh, .ref xo, .ref xp, .int (iI vr), .int (iI va), .int (iI vt), .int (iI vm), .int (iI vd), .int (iI vx)]), (xw, aI g 72000 f3), (xv, aZ g 72000 fg), (xa, aI g 64 (lfT mW 64)), (xb, aI g 64 (lfT mB 64)), (xc, aI g 27 (lfT mWM 27)), (xd, aI g 27 (lfT mBM 27)), (xe, aI g 13 (lfT mBO 13))] 0 0 [(0, .ref h0), (1, .int (iI y)), (3, .int (iI b1))] 130 [] := by
              intro N
              induction N with
              | zero => intro b3 f3 j hi130_0 hi130_1 hi130_2 hi130_3 hN; exact absurd hN (Nat.not_lt_zero _)
              | succ N ihL130 =>
                intro b3 f3 j hi130_0 hi130_1 hi130_2 hi130_3 hN130
                refine v_aload_n fx 0 dX8_encode_130 rfl rfl ?_
                refine v_get fx 0 8 inX8 k1004 dX8_encode_131 rfl rfl (by decide) rfl rfl rfl ?_
                refine v_iconst fx dX8_encode_134 rfl ?_
                refine v_icmp_ge fx 159 dX8_encode_135 (by decide) rfl (by omega) (by omega) (fun h_205 => ?_) (fun h0 => absurd h0 (by omega))
                refine v_iinc fx 1 (y + 1) [(1, .int (iI (y + 1))), (0, .ref h0), (3, .int (iI b1))] dX8_encode_159 rfl (by omega) (by decide) rfl rfl ?_
                refine v_goto fx 17 dX8_encode_162 (by decide) ?_
                refine v_lv [1, 0] [(0, .ref h0), (1, .int (iI (y + 1)))] rfl ?_
                exact ihL17 (y + 1) b3 f3 (P ++ (preB 2 (oneF 2 y) ++ (R_201 ++ fillB 2 vf R_201))) (by omega) (by omega) (by exact EncR_eq hi130_3 (by rw [fill_R2 (fl := vf) hcR hcP (by omega)]; simp only [List.append_assoc])) (by exact Doc_step hi17_3 (by omega) hRB) (by omega)
            refine v_lv [2, 3, 0] [(0, .ref h0), (1, .int (iI y)), (3, .int (iI b1))] rfl ?_
            exact L130 _ b2_199 f2_200 0 (by omega) (by omega) (by omega) (by show EncR _ _ _ (_ ++ []); rw [List.append_nil]; exact hER) (Nat.lt_succ_self _)
  refine v_lv [1, 0] [(0, .ref h0), (1, .int (iI 0))] rfl ?_
  exact L17 _ 0 0 f ([]) (by omega) (by omega) (by exact EncR_nil _ _) (by exact (rfl : ([] : List Bool) = [])) (Nat.lt_succ_self _)
