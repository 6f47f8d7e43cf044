/-! THE REFERENCE: what is written, and the small public methods -/
theorem dX8_encode_0 : decode cX8_encode 0 = .ok (.aload_n 0, 1) := by decide +kernel
theorem dX8_encode_1 : decode cX8_encode 1 = .ok (.iconst 0, 1) := by decide +kernel
theorem dX8_encode_2 : decode cX8_encode 2 = .ok (.putfield 66, 3) := by decide +kernel
theorem dX8_encode_5 : decode cX8_encode 5 = .ok (.aload_n 0, 1) := by decide +kernel
theorem dX8_encode_6 : decode cX8_encode 6 = .ok (.iconst 0, 1) := by decide +kernel
theorem dX8_encode_7 : decode cX8_encode 7 = .ok (.putfield 72, 3) := by decide +kernel
theorem dX8_encode_10 : decode cX8_encode 10 = .ok (.aload_n 0, 1) := by decide +kernel
theorem dX8_encode_11 : decode cX8_encode 11 = .ok (.iconst 1, 1) := by decide +kernel
theorem dX8_encode_12 : decode cX8_encode 12 = .ok (.putfield 108, 3) := by decide +kernel
theorem dX8_encode_15 : decode cX8_encode 15 = .ok (.iconst 0, 1) := by decide +kernel
theorem dX8_encode_16 : decode cX8_encode 16 = .ok (.istore_n 1, 1) := by decide +kernel
theorem dX8_encode_17 : decode cX8_encode 17 = .ok (.iload_n 1, 1) := by decide +kernel
theorem dX8_encode_18 : decode cX8_encode 18 = .ok (.aload_n 0, 1) := by decide +kernel
theorem dX8_encode_19 : decode cX8_encode 19 = .ok (.getfield 69, 3) := by decide +kernel
theorem dX8_encode_22 : decode cX8_encode 22 = .ok (.if_icmp .ge 143, 3) := by decide +kernel
theorem dX8_encode_25 : decode cX8_encode 25 = .ok (.aload_n 0, 1) := by decide +kernel
theorem dX8_encode_26 : decode cX8_encode 26 = .ok (.getfield 59, 3) := by decide +kernel
theorem dX8_encode_29 : decode cX8_encode 29 = .ok (.ifCond .eq 17, 3) := by decide +kernel
theorem dX8_encode_32 : decode cX8_encode 32 = .ok (.aload_n 0, 1) := by decide +kernel
theorem dX8_encode_33 : decode cX8_encode 33 = .ok (.getfield 59, 3) := by decide +kernel
theorem dX8_encode_36 : decode cX8_encode 36 = .ok (.iconst 1, 1) := by decide +kernel
theorem dX8_encode_37 : decode cX8_encode 37 = .ok (.if_icmp .ne 13, 3) := by decide +kernel
theorem dX8_encode_40 : decode cX8_encode 40 = .ok (.iload_n 1, 1) := by decide +kernel
theorem dX8_encode_41 : decode cX8_encode 41 = .ok (.iconst 4, 1) := by decide +kernel
theorem dX8_encode_42 : decode cX8_encode 42 = .ok (.irem, 1) := by decide +kernel
theorem dX8_encode_43 : decode cX8_encode 43 = .ok (.ifCond .ne 7, 3) := by decide +kernel
theorem dX8_encode_46 : decode cX8_encode 46 = .ok (.iconst 1, 1) := by decide +kernel
theorem dX8_encode_47 : decode cX8_encode 47 = .ok (.goto 4, 3) := by decide +kernel
theorem dX8_encode_50 : decode cX8_encode 50 = .ok (.iconst 0, 1) := by decide +kernel
theorem dX8_encode_51 : decode cX8_encode 51 = .ok (.istore_n 2, 1) := by decide +kernel
theorem dX8_encode_52 : decode cX8_encode 52 = .ok (.aload_n 0, 1) := by decide +kernel
theorem dX8_encode_53 : decode cX8_encode 53 = .ok (.getfield 59, 3) := by decide +kernel
theorem dX8_encode_56 : decode cX8_encode 56 = .ok (.iconst 2, 1) := by decide +kernel
theorem dX8_encode_57 : decode cX8_encode 57 = .ok (.if_icmp .ge 7, 3) := by decide +kernel
theorem dX8_encode_60 : decode cX8_encode 60 = .ok (.aload_n 0, 1) := by decide +kernel
theorem dX8_encode_61 : decode cX8_encode 61 = .ok (.invokevirtual 111, 3) := by decide +kernel
theorem dX8_encode_64 : decode cX8_encode 64 = .ok (.aload_n 0, 1) := by decide +kernel
theorem dX8_encode_65 : decode cX8_encode 65 = .ok (.getfield 59, 3) := by decide +kernel
theorem dX8_encode_68 : decode cX8_encode 68 = .ok (.iconst 1, 1) := by decide +kernel
theorem dX8_encode_69 : decode cX8_encode 69 = .ok (.if_icmp .ne 16, 3) := by decide +kernel
theorem dX8_encode_72 : decode cX8_encode 72 = .ok (.aload_n 0, 1) := by decide +kernel
theorem dX8_encode_73 : decode cX8_encode 73 = .ok (.iload_n 2, 1) := by decide +kernel
theorem dX8_encode_74 : decode cX8_encode 74 = .ok (.ifCond .eq 7, 3) := by decide +kernel
theorem dX8_encode_77 : decode cX8_encode 77 = .ok (.iconst 1, 1) := by decide +kernel
theorem dX8_encode_78 : decode cX8_encode 78 = .ok (.goto 4, 3) := by decide +kernel
theorem dX8_encode_81 : decode cX8_encode 81 = .ok (.iconst 0, 1) := by decide +kernel
theorem dX8_encode_82 : decode cX8_encode 82 = .ok (.invokevirtual 79, 3) := by decide +kernel
theorem dX8_encode_85 : decode cX8_encode 85 = .ok (.aload_n 0, 1) := by decide +kernel
theorem dX8_encode_86 : decode cX8_encode 86 = .ok (.getfield 72, 3) := by decide +kernel
theorem dX8_encode_89 : decode cX8_encode 89 = .ok (.istore_n 3, 1) := by decide +kernel
theorem dX8_encode_90 : decode cX8_encode 90 = .ok (.iload_n 2, 1) := by decide +kernel
theorem dX8_encode_91 : decode cX8_encode 91 = .ok (.ifCond .eq 15, 3) := by decide +kernel
theorem dX8_encode_94 : decode cX8_encode 94 = .ok (.aload_n 0, 1) := by decide +kernel
theorem dX8_encode_95 : decode cX8_encode 95 = .ok (.sipush 3000, 3) := by decide +kernel
theorem dX8_encode_98 : decode cX8_encode 98 = .ok (.iload_n 1, 1) := by decide +kernel
theorem dX8_encode_99 : decode cX8_encode 99 = .ok (.imul, 1) := by decide +kernel
theorem dX8_encode_100 : decode cX8_encode 100 = .ok (.invokevirtual 114, 3) := by decide +kernel
theorem dX8_encode_103 : decode cX8_encode 103 = .ok (.goto 27, 3) := by decide +kernel
theorem dX8_encode_106 : decode cX8_encode 106 = .ok (.aload_n 0, 1) := by decide +kernel
theorem dX8_encode_107 : decode cX8_encode 107 = .ok (.sipush 3000, 3) := by decide +kernel
theorem dX8_encode_110 : decode cX8_encode 110 = .ok (.iload_n 1, 1) := by decide +kernel
theorem dX8_encode_111 : decode cX8_encode 111 = .ok (.imul, 1) := by decide +kernel
theorem dX8_encode_112 : decode cX8_encode 112 = .ok (.iload_n 1, 1) := by decide +kernel
theorem dX8_encode_113 : decode cX8_encode 113 = .ok (.ifCond .ne 7, 3) := by decide +kernel
theorem dX8_encode_116 : decode cX8_encode 116 = .ok (.iconst (-1), 1) := by decide +kernel
theorem dX8_encode_117 : decode cX8_encode 117 = .ok (.goto 10, 3) := by decide +kernel
theorem dX8_encode_120 : decode cX8_encode 120 = .ok (.sipush 3000, 3) := by decide +kernel
theorem dX8_encode_123 : decode cX8_encode 123 = .ok (.iload_n 1, 1) := by decide +kernel
theorem dX8_encode_124 : decode cX8_encode 124 = .ok (.iconst 1, 1) := by decide +kernel
theorem dX8_encode_125 : decode cX8_encode 125 = .ok (.isub, 1) := by decide +kernel
theorem dX8_encode_126 : decode cX8_encode 126 = .ok (.imul, 1) := by decide +kernel
theorem dX8_encode_127 : decode cX8_encode 127 = .ok (.invokevirtual 117, 3) := by decide +kernel
theorem dX8_encode_130 : decode cX8_encode 130 = .ok (.aload_n 0, 1) := by decide +kernel
theorem dX8_encode_131 : decode cX8_encode 131 = .ok (.getfield 59, 3) := by decide +kernel
theorem dX8_encode_134 : decode cX8_encode 134 = .ok (.iconst 2, 1) := by decide +kernel
theorem dX8_encode_135 : decode cX8_encode 135 = .ok (.if_icmp .ge 24, 3) := by decide +kernel
theorem dX8_encode_138 : decode cX8_encode 138 = .ok (.aload_n 0, 1) := by decide +kernel
theorem dX8_encode_139 : decode cX8_encode 139 = .ok (.getfield 72, 3) := by decide +kernel
theorem dX8_encode_142 : decode cX8_encode 142 = .ok (.iload_n 3, 1) := by decide +kernel
theorem dX8_encode_143 : decode cX8_encode 143 = .ok (.isub, 1) := by decide +kernel
theorem dX8_encode_144 : decode cX8_encode 144 = .ok (.aload_n 0, 1) := by decide +kernel
theorem dX8_encode_145 : decode cX8_encode 145 = .ok (.getfield 120, 3) := by decide +kernel
theorem dX8_encode_148 : decode cX8_encode 148 = .ok (.if_icmp .ge 11, 3) := by decide +kernel
theorem dX8_encode_151 : decode cX8_encode 151 = .ok (.aload_n 0, 1) := by decide +kernel
theorem dX8_encode_152 : decode cX8_encode 152 = .ok (.iconst 0, 1) := by decide +kernel
theorem dX8_encode_153 : decode cX8_encode 153 = .ok (.invokevirtual 79, 3) := by decide +kernel
theorem dX8_encode_156 : decode cX8_encode 156 = .ok (.goto (-26), 3) := by decide +kernel
theorem dX8_encode_159 : decode cX8_encode 159 = .ok (.iinc 1 1, 3) := by decide +kernel
theorem dX8_encode_162 : decode cX8_encode 162 = .ok (.goto (-145), 3) := by decide +kernel
theorem dX8_encode_165 : decode cX8_encode 165 = .ok (.iconst 0, 1) := by decide +kernel
theorem dX8_encode_166 : decode cX8_encode 166 = .ok (.istore_n 1, 1) := by decide +kernel
theorem dX8_encode_167 : decode cX8_encode 167 = .ok (.iload_n 1, 1) := by decide +kernel
theorem dX8_encode_168 : decode cX8_encode 168 = .ok (.aload_n 0, 1) := by decide +kernel
theorem dX8_encode_169 : decode cX8_encode 169 = .ok (.getfield 59, 3) := by decide +kernel
theorem dX8_encode_172 : decode cX8_encode 172 = .ok (.iconst 2, 1) := by decide +kernel
theorem dX8_encode_173 : decode cX8_encode 173 = .ok (.if_icmp .ge 8, 3) := by decide +kernel
theorem dX8_encode_176 : decode cX8_encode 176 = .ok (.bipush 6, 2) := by decide +kernel
theorem dX8_encode_178 : decode cX8_encode 178 = .ok (.goto 4, 3) := by decide +kernel
theorem dX8_encode_181 : decode cX8_encode 181 = .ok (.iconst 2, 1) := by decide +kernel
theorem dX8_encode_182 : decode cX8_encode 182 = .ok (.if_icmp .ge 26, 3) := by decide +kernel
theorem dX8_encode_185 : decode cX8_encode 185 = .ok (.aload_n 0, 1) := by decide +kernel
theorem dX8_encode_186 : decode cX8_encode 186 = .ok (.invokevirtual 111, 3) := by decide +kernel
theorem dX8_encode_189 : decode cX8_encode 189 = .ok (.aload_n 0, 1) := by decide +kernel
theorem dX8_encode_190 : decode cX8_encode 190 = .ok (.getfield 59, 3) := by decide +kernel
theorem dX8_encode_193 : decode cX8_encode 193 = .ok (.iconst 1, 1) := by decide +kernel
theorem dX8_encode_194 : decode cX8_encode 194 = .ok (.if_icmp .ne 8, 3) := by decide +kernel
theorem dX8_encode_197 : decode cX8_encode 197 = .ok (.aload_n 0, 1) := by decide +kernel
theorem dX8_encode_198 : decode cX8_encode 198 = .ok (.iconst 1, 1) := by decide +kernel
theorem dX8_encode_199 : decode cX8_encode 199 = .ok (.invokevirtual 79, 3) := by decide +kernel
theorem dX8_encode_202 : decode cX8_encode 202 = .ok (.iinc 1 1, 3) := by decide +kernel
theorem dX8_encode_205 : decode cX8_encode 205 = .ok (.goto (-38), 3) := by decide +kernel
theorem dX8_encode_208 : decode cX8_encode 208 = .ok (.aload_n 0, 1) := by decide +kernel
theorem dX8_encode_209 : decode cX8_encode 209 = .ok (.getfield 72, 3) := by decide +kernel
theorem dX8_encode_212 : decode cX8_encode 212 = .ok (.bipush 7, 2) := by decide +kernel
theorem dX8_encode_214 : decode cX8_encode 214 = .ok (.iadd, 1) := by decide +kernel
theorem dX8_encode_215 : decode cX8_encode 215 = .ok (.bipush 8, 2) := by decide +kernel
theorem dX8_encode_217 : decode cX8_encode 217 = .ok (.idiv, 1) := by decide +kernel
theorem dX8_encode_218 : decode cX8_encode 218 = .ok (.ireturn, 1) := by decide +kernel
abbrev po_c_X8_encode (g : GG) (h0 : Nat) (xa : Nat) (xb : Nat) (xc : Nat) (xd : Nat) (xe : Nat) (xf : Nat) (xg : Nat) (xm : Nat) (xv : Nat) (xw : Nat) (xq : Nat) (xr : Nat) (xh : Nat) (xo : Nat) (xp : Nat) (vc : Int) (vk : Int) (vw : Int) (vg : Int) (vb : Int) (vi : Int) (ve : Int) (vf : Int) (vu : Int) (vl : Int) (vr : Int) (va : Int) (vt : Int) (vm : Int) (vd : Int) (vx : Int) (f : Nat → Int32) (fg : Nat → Int32) : Option Value → va_W → Prop := fun v8 w8 => ∃ r : Int, ∃ b2 : Int, ∃ f2 : Nat → Int32, v8 = some (.int (iI r)) ∧ w8 = [(h0, ob 8 [.ref xa, .ref xb, .ref xc, .ref xd, .ref xe, .ref xf, .ref xg, .int (iI 0), .int (iI vk), .int (iI vw), .ref xm, .ref xv, .int (iI vg), .ref xw, .int (iI b2), .int (iI 1), .ref xq, .int (iI ve), .int (iI vf), .int (iI vu), .int (iI vl), .ref xr, .ref xh, .ref xo, .ref xp, .int (iI vr), .int (iI va), .int (iI vt), .int (iI vm), .int (iI vd), .int (iI vx)]), (xw, aI g 72000 f2), (xv, aZ g 72000 fg), (xa, aI g 64 (lfT mW 64)), (xb, aI g 64 (lfT mB 64)), (xc, aI g 27 (lfT mWM 27)), (xd, aI g 27 (lfT mBM 27)), (xe, aI g 13 (lfT mBO 13))] ∧ (0 ≤ b2 ∧ b2 ≤ 507000) ∧ (r = (b2 + 7) / 8)
set_option maxHeartbeats 4000000 in
set_option maxRecDepth 100000 in
theorem c_X8_encode (l : Launch) (g : GG) (h0 : Nat) (xa : Nat) (xb : Nat) (xc : Nat) (xd : Nat) (xe : Nat) (xf : Nat) (xg : Nat) (xm : Nat) (xv : Nat) (xw : Nat) (xq : Nat) (xr : Nat) (xh : Nat) (xo : Nat) (xp : Nat) (vc : Int) (vk : Int) (vw : Int) (vg : Int) (vb : Int) (vi : Int) (ve : Int) (vf : Int) (vu : Int) (vl : Int) (vr : Int) (va : Int) (vt : Int) (vm : Int) (vd : Int) (vx : Int) (f : Nat → Int32) (fg : Nat → Int32) (hp0 : 0 ≤ vk ∧ vk ≤ 2) (hp1 : 0 ≤ vl ∧ vl ≤ 1) (hp2 : 1 ≤ vw ∧ vw ≤ 3000) (hp3 : 0 ≤ vg ∧ vg ≤ 24) (hp4 : 0 ≤ vf ∧ vf ≤ 4000) (hp5 : bZ fg) : Ct l g yX8_encode (wM yX8_encode cX8_encode 4 (some .int)) (rmD 5 0 0) [.ref h0] [(h0, ob 8 [.ref xa, .ref xb, .ref xc, .ref xd, .ref xe, .ref xf, .ref xg, .int (iI vc), .int (iI vk), .int (iI vw), .ref xm, .ref xv, .int (iI vg), .ref xw, .int (iI vb), .int (iI vi), .ref xq, .int (iI ve), .int (iI vf), .int (iI vu), .int (iI vl), .ref xr, .ref xh, .ref xo, .ref xp, .int (iI vr), .int (iI va), .int (iI vt), .int (iI vm), .int (iI vd), .int (iI vx)]), (xw, aI g 72000 f), (xv, aZ g 72000 fg), (xa, aI g 64 (lfT mW 64)), (xb, aI g 64 (lfT mB 64)), (xc, aI g 27 (lfT mWM 27)), (xd, aI g 27 (lfT mBM 27)), (xe, aI g 13 (lfT mBO 13))] (po_c_X8_encode g h0 xa xb xc xd xe xf xg xm xv xw xq xr xh xo xp vc vk vw vg vb vi ve vf vu vl vr va vt vm vd vx f fg) := by
  refine Ct_of (by decide +kernel) (Nat.le_of_ble_eq_true rfl) ?_
  intro p9 e9 s9 m9 ag9 bl9 mt9 c9 A9 fx hr hnm
  refine v_aload_n fx 0 dX8_encode_0 rfl rfl ?_
  refine v_iconst fx dX8_encode_1 rfl ?_
  refine v_put fx 0 7 [(h0, ob 8 [.ref xa, .ref xb, .ref xc, .ref xd, .ref xe, .ref xf, .ref xg, .int (iI 0), .int (iI vk), .int (iI vw), .ref xm, .ref xv, .int (iI vg), .ref xw, .int (iI vb), .int (iI vi), .ref xq, .int (iI ve), .int (iI vf), .int (iI vu), .int (iI vl), .ref xr, .ref xh, .ref xo, .ref xp, .int (iI vr), .int (iI va), .int (iI vt), .int (iI vm), .int (iI vd), .int (iI vx)]), (xw, aI g 72000 f), (xv, aZ g 72000 fg), (xa, aI g 64 (lfT mW 64)), (xb, aI g 64 (lfT mB 64)), (xc, aI g 27 (lfT mWM 27)), (xd, aI g 27 (lfT mBM 27)), (xe, aI g 13 (lfT mBO 13))] inX8 tyX8_ok nmX8 k1003 dX8_encode_2 rfl rfl (by decide) rfl rfl rfl rfl (nl rfl) rfl rfl ?_
  refine v_aload_n fx 0 dX8_encode_5 rfl rfl ?_
  refine v_iconst fx dX8_encode_6 rfl ?_
  refine v_put fx 0 14 [(h0, ob 8 [.ref xa, .ref xb, .ref xc, .ref xd, .ref xe, .ref xf, .ref xg, .int (iI 0), .int (iI vk), .int (iI vw), .ref xm, .ref xv, .int (iI vg), .ref xw, .int (iI 0), .int (iI vi), .ref xq, .int (iI ve), .int (iI vf), .int (iI vu), .int (iI vl), .ref xr, .ref xh, .ref xo, .ref xp, .int (iI vr), .int (iI va), .int (iI vt), .int (iI vm), .int (iI vd), .int (iI vx)]), (xw, aI g 72000 f), (xv, aZ g 72000 fg), (xa, aI g 64 (lfT mW 64)), (xb, aI g 64 (lfT mB 64)), (xc, aI g 27 (lfT mWM 27)), (xd, aI g 27 (lfT mBM 27)), (xe, aI g 13 (lfT mBO 13))] inX8 tyX8_ok nmX8 k1010 dX8_encode_7 rfl rfl (by decide) rfl rfl rfl rfl (nl rfl) rfl rfl ?_
  refine v_aload_n fx 0 dX8_encode_10 rfl rfl ?_
  refine v_iconst fx dX8_encode_11 rfl ?_
  refine v_put fx 0 15 [(h0, ob 8 [.ref xa, .ref xb, .ref xc, .ref xd, .ref xe, .ref xf, .ref xg, .int (iI 0), .int (iI vk), .int (iI vw), .ref xm, .ref xv, .int (iI vg), .ref xw, .int (iI 0), .int (iI 1), .ref xq, .int (iI ve), .int (iI vf), .int (iI vu), .int (iI vl), .ref xr, .ref xh, .ref xo, .ref xp, .int (iI vr), .int (iI va), .int (iI vt), .int (iI vm), .int (iI vd), .int (iI vx)]), (xw, aI g 72000 f), (xv, aZ g 72000 fg), (xa, aI g 64 (lfT mW 64)), (xb, aI g 64 (lfT mB 64)), (xc, aI g 27 (lfT mWM 27)), (xd, aI g 27 (lfT mBM 27)), (xe, aI g 13 (lfT mBO 13))] inX8 tyX8_ok nmX8 k1011 dX8_encode_12 rfl rfl (by decide) rfl rfl rfl rfl (nl rfl) rfl rfl ?_
  refine v_iconst fx dX8_encode_15 rfl ?_
  refine v_istore_n fx [(1, .int (iI 0)), (0, .ref h0)] dX8_encode_16 (by decide) rfl rfl ?_
  have L17 : ∀ (N : Nat) (y : Int) (b1 : Int) (f1 : Nat → Int32), (0 ≤ y ∧ y ≤ vg) → (0 ≤ b1 ∧ b1 ≤ 21060 * y) → ((vg - y).toNat) < N → V p9 l e9 (rmD 5 0 0) s9 m9 ag9 bl9 mt9 c9 4 g A9 (MQ bl9 (cQ g (po_c_X8_encode g h0 xa xb xc xd xe xf xg xm xv xw xq xr xh xo xp vc vk vw vg vb vi ve vf vu vl vr va vt vm vd vx f fg) A9) ag9 s9 0 0 A9) [(h0, ob 8 [.ref xa, .ref xb, .ref xc, .ref xd, .ref xe, .ref xf, .ref xg, .int (iI 0), .int (iI vk), .int (iI vw), .ref xm, .ref xv, .int (iI vg), .ref xw, .int (iI b1), .int (iI 1), .ref xq, .int (iI ve), .int (iI vf), .int (iI vu), .int (iI vl), .ref xr, .ref xh, .ref xo, .ref xp, .int (iI vr), .int (iI va), .int (iI vt), .int (iI vm), .int (iI vd), .int (iI vx)]), (xw, aI g 72000 f1), (xv, aZ g 72000 fg), (xa, aI g 64 (lfT mW 64)), (xb, aI g 64 (lfT mB 64)), (xc, aI g 27 (lfT mWM 27)), (xd, aI g 27 (lfT mBM 27)), (xe, aI g 13 (lfT mBO 13))] 0 0 [(0, .ref h0), (1, .int (iI y))] 17 [] := by
    intro N
    induction N with
    | zero => intro y b1 f1 hi17_0 hi17_1 hN; exact absurd hN (Nat.not_lt_zero _)
    | succ N ihL17 =>
      intro y b1 f1 hi17_0 hi17_1 hN17
      refine v_iload_n fx 1 dX8_encode_17 rfl rfl ?_
      refine v_aload_n fx 0 dX8_encode_18 rfl rfl ?_
      refine v_get fx 0 12 inX8 k1008 dX8_encode_19 rfl rfl (by decide) rfl rfl rfl ?_
      refine v_icmp_ge fx 165 dX8_encode_22 (by decide) rfl (by omega) (by omega) (fun h_1 => ?_) (fun h_1 => ?_)
      ·
        rcases (show vk = 0 ∨ vk = 1 ∨ vk = 2 by omega) with rfl | rfl | rfl
        ·
          refine v_iconst fx dX8_encode_165 rfl ?_
          refine v_istore_n fx [(1, .int (iI 0)), (0, .ref h0)] dX8_encode_166 (by decide) rfl rfl ?_
          refine v_iload_n fx 0 dX8_encode_167 rfl rfl ?_
          refine v_aload_n fx 1 dX8_encode_168 rfl rfl ?_
          refine v_get fx 0 8 inX8 k1004 dX8_encode_169 rfl rfl (by decide) rfl rfl rfl ?_
          refine v_iconst fx dX8_encode_172 rfl ?_
          refine v_icmp_ge fx 181 dX8_encode_173 (by decide) rfl (by omega) (by omega) (fun h0 => absurd h0 (by omega)) (fun h_2 => ?_)
          refine v_bipush fx dX8_encode_176 (by decide +kernel) rfl ?_
          refine v_goto fx 182 dX8_encode_178 (by decide) ?_
          refine v_icmp_ge fx 208 dX8_encode_182 (by decide) rfl (by omega) (by omega) (fun h0 => absurd h0 (by omega)) (fun h_3 => ?_)
          refine v_aload_n fx 1 dX8_encode_185 rfl rfl ?_
          refine v_callV (As := []) (rest := []) fx [0, 1] [2, 3, 4, 5, 6, 7] [(h0, ob 8 [.ref xa, .ref xb, .ref xc, .ref xd, .ref xe, .ref xf, .ref xg, .int (iI 0), .int (iI 0), .int (iI vw), .ref xm, .ref xv, .int (iI vg), .ref xw, .int (iI b1), .int (iI 1), .ref xq, .int (iI ve), .int (iI vf), .int (iI vu), .int (iI vl), .ref xr, .ref xh, .ref xo, .ref xp, .int (iI vr), .int (iI va), .int (iI vt), .int (iI vm), .int (iI vd), .int (iI vx)]), (xw, aI g 72000 f1)] [(xv, aZ g 72000 fg), (xa, aI g 64 (lfT mW 64)), (xb, aI g 64 (lfT mB 64)), (xc, aI g 27 (lfT mWM 27)), (xd, aI g 27 (lfT mBM 27)), (xe, aI g 13 (lfT mBO 13))] 0 0 (c_X8_mark l g h0 xa xb xc xd xe xf xg xm xv xw xq xr xh xo xp 0 0 vw vg b1 1 ve vf vu vl vr va vt vm vd vx f1 (by first | omega | decide | assumption) (by first | omega | decide | assumption)) dX8_encode_186 k1102 k1104 k21 k57 k1105 ykX8_mark rfl rfl rfl rfl rfl rfl rfl rfl (nl rfl) ⟨nl rfl, nl rfl⟩ ⟨(nl rfl), (nl rfl)⟩ rfl (fun v9 w9 hu => ?_)
          obtain ⟨b2_4, f2_5, rfl, rfl, u_6⟩ := hu
          refine v_is (wn := [(xv, aZ g 72000 fg), (xa, aI g 64 (lfT mW 64)), (xb, aI g 64 (lfT mB 64)), (xc, aI g 27 (lfT mWM 27)), (xd, aI g 27 (lfT mBM 27)), (xe, aI g 13 (lfT mBO 13)), (h0, ob 8 [.ref xa, .ref xb, .ref xc, .ref xd, .ref xe, .ref xf, .ref xg, .int (iI 0), .int (iI 0), .int (iI vw), .ref xm, .ref xv, .int (iI vg), .ref xw, .int (iI b2_4), .int (iI 1), .ref xq, .int (iI ve), .int (iI vf), .int (iI vu), .int (iI vl), .ref xr, .ref xh, .ref xo, .ref xp, .int (iI vr), .int (iI va), .int (iI vt), .int (iI vm), .int (iI vd), .int (iI vx)]), (xw, aI g 72000 f2_5)]) (cn := 0) (sn := 0) (sn2 := []) rfl rfl rfl rfl ?_
          refine v_aload_n fx 1 dX8_encode_189 rfl rfl ?_
          refine v_get fx 6 8 inX8 k1004 dX8_encode_190 rfl rfl (by decide) rfl rfl rfl ?_
          refine v_iconst fx dX8_encode_193 rfl ?_
          refine v_icmp_ne fx 202 dX8_encode_194 (by decide) rfl (by omega) (by omega) (fun h_7 => ?_) (fun h0 => absurd h0 (by omega))
          refine v_iinc fx 0 (1) [(1, .int (iI 1)), (0, .ref h0)] dX8_encode_202 rfl (by omega) (by decide) rfl rfl ?_
          refine v_goto fx 167 dX8_encode_205 (by decide) ?_
          refine v_iload_n fx 0 dX8_encode_167 rfl rfl ?_
          refine v_aload_n fx 1 dX8_encode_168 rfl rfl ?_
          refine v_get fx 6 8 inX8 k1004 dX8_encode_169 rfl rfl (by decide) rfl rfl rfl ?_
          refine v_iconst fx dX8_encode_172 rfl ?_
          refine v_icmp_ge fx 181 dX8_encode_173 (by decide) rfl (by omega) (by omega) (fun h0 => absurd h0 (by omega)) (fun h_8 => ?_)
          refine v_bipush fx dX8_encode_176 (by decide +kernel) rfl ?_
          refine v_goto fx 182 dX8_encode_178 (by decide) ?_
          refine v_icmp_ge fx 208 dX8_encode_182 (by decide) rfl (by omega) (by omega) (fun h0 => absurd h0 (by omega)) (fun h_9 => ?_)
          refine v_aload_n fx 1 dX8_encode_185 rfl rfl ?_
          refine v_callV (As := []) (rest := []) fx [6, 7] [0, 1, 2, 3, 4, 5] [(h0, ob 8 [.ref xa, .ref xb, .ref xc, .ref xd, .ref xe, .ref xf, .ref xg, .int (iI 0), .int (iI 0), .int (iI vw), .ref xm, .ref xv, .int (iI vg), .ref xw, .int (iI b2_4), .int (iI 1), .ref xq, .int (iI ve), .int (iI vf), .int (iI vu), .int (iI vl), .ref xr, .ref xh, .ref xo, .ref xp, .int (iI vr), .int (iI va), .int (iI vt), .int (iI vm), .int (iI vd), .int (iI vx)]), (xw, aI g 72000 f2_5)] [(xv, aZ g 72000 fg), (xa, aI g 64 (lfT mW 64)), (xb, aI g 64 (lfT mB 64)), (xc, aI g 27 (lfT mWM 27)), (xd, aI g 27 (lfT mBM 27)), (xe, aI g 13 (lfT mBO 13))] 0 0 (c_X8_mark l g h0 xa xb xc xd xe xf xg xm xv xw xq xr xh xo xp 0 0 vw vg b2_4 1 ve vf vu vl vr va vt vm vd vx f2_5 (by first | omega | decide | assumption) (by first | omega | decide | assumption)) dX8_encode_186 k1102 k1104 k21 k57 k1105 ykX8_mark rfl rfl rfl rfl rfl rfl rfl rfl (nl rfl) ⟨nl rfl, nl rfl⟩ ⟨(nl rfl), (nl rfl)⟩ rfl (fun v9 w9 hu => ?_)
          obtain ⟨b2_10, f2_11, rfl, rfl, u_12⟩ := hu
          refine v_is (wn := [(xv, aZ g 72000 fg), (xa, aI g 64 (lfT mW 64)), (xb, aI g 64 (lfT mB 64)), (xc, aI g 27 (lfT mWM 27)), (xd, aI g 27 (lfT mBM 27)), (xe, aI g 13 (lfT mBO 13)), (h0, ob 8 [.ref xa, .ref xb, .ref xc, .ref xd, .ref xe, .ref xf, .ref xg, .int (iI 0), .int (iI 0), .int (iI vw), .ref xm, .ref xv, .int (iI vg), .ref xw, .int (iI b2_10), .int (iI 1), .ref xq, .int (iI ve), .int (iI vf), .int (iI vu), .int (iI vl), .ref xr, .ref xh, .ref xo, .ref xp, .int (iI vr), .int (iI va), .int (iI vt), .int (iI vm), .int (iI vd), .int (iI vx)]), (xw, aI g 72000 f2_11)]) (cn := 0) (sn := 0) (sn2 := []) rfl rfl rfl rfl ?_
          refine v_aload_n fx 1 dX8_encode_189 rfl rfl ?_
          refine v_get fx 6 8 inX8 k1004 dX8_encode_190 rfl rfl (by decide) rfl rfl rfl ?_
          refine v_iconst fx dX8_encode_193 rfl ?_
          refine v_icmp_ne fx 202 dX8_encode_194 (by decide) rfl (by omega) (by omega) (fun h_13 => ?_) (fun h0 => absurd h0 (by omega))
          refine v_iinc fx 0 (2) [(1, .int (iI 2)), (0, .ref h0)] dX8_encode_202 rfl (by omega) (by decide) rfl rfl ?_
          refine v_goto fx 167 dX8_encode_205 (by decide) ?_
          refine v_iload_n fx 0 dX8_encode_167 rfl rfl ?_
          refine v_aload_n fx 1 dX8_encode_168 rfl rfl ?_
          refine v_get fx 6 8 inX8 k1004 dX8_encode_169 rfl rfl (by decide) rfl rfl rfl ?_
          refine v_iconst fx dX8_encode_172 rfl ?_
          refine v_icmp_ge fx 181 dX8_encode_173 (by decide) rfl (by omega) (by omega) (fun h0 => absurd h0 (by omega)) (fun h_14 => ?_)
          refine v_bipush fx dX8_encode_176 (by decide +kernel) rfl ?_
          refine v_goto fx 182 dX8_encode_178 (by decide) ?_
          refine v_icmp_ge fx 208 dX8_encode_182 (by decide) rfl (by omega) (by omega) (fun h0 => absurd h0 (by omega)) (fun h_15 => ?_)
          refine v_aload_n fx 1 dX8_encode_185 rfl rfl ?_
          refine v_callV (As := []) (rest := []) fx [6, 7] [0, 1, 2, 3, 4, 5] [(h0, ob 8 [.ref xa, .ref xb, .ref xc, .ref xd, .ref xe, .ref xf, .ref xg, .int (iI 0), .int (iI 0), .int (iI vw), .ref xm, .ref xv, .int (iI vg), .ref xw, .int (iI b2_10), .int (iI 1), .ref xq, .int (iI ve), .int (iI vf), .int (iI vu), .int (iI vl), .ref xr, .ref xh, .ref xo, .ref xp, .int (iI vr), .int (iI va), .int (iI vt), .int (iI vm), .int (iI vd), .int (iI vx)]), (xw, aI g 72000 f2_11)] [(xv, aZ g 72000 fg), (xa, aI g 64 (lfT mW 64)), (xb, aI g 64 (lfT mB 64)), (xc, aI g 27 (lfT mWM 27)), (xd, aI g 27 (lfT mBM 27)), (xe, aI g 13 (lfT mBO 13))] 0 0 (c_X8_mark l g h0 xa xb xc xd xe xf xg xm xv xw xq xr xh xo xp 0 0 vw vg b2_10 1 ve vf vu vl vr va vt vm vd vx f2_11 (by first | omega | decide | assumption) (by first | omega | decide | assumption)) dX8_encode_186 k1102 k1104 k21 k57 k1105 ykX8_mark rfl rfl rfl rfl rfl rfl rfl rfl (nl rfl) ⟨nl rfl, nl rfl⟩ ⟨(nl rfl), (nl rfl)⟩ rfl (fun v9 w9 hu => ?_)
          obtain ⟨b2_16, f2_17, rfl, rfl, u_18⟩ := hu
          refine v_is (wn := [(xv, aZ g 72000 fg), (xa, aI g 64 (lfT mW 64)), (xb, aI g 64 (lfT mB 64)), (xc, aI g 27 (lfT mWM 27)), (xd, aI g 27 (lfT mBM 27)), (xe, aI g 13 (lfT mBO 13)), (h0, ob 8 [.ref xa, .ref xb, .ref xc, .ref xd, .ref xe, .ref xf, .ref xg, .int (iI 0), .int (iI 0), .int (iI vw), .ref xm, .ref xv, .int (iI vg), .ref xw, .int (iI b2_16), .int (iI 1), .ref xq, .int (iI ve), .int (iI vf), .int (iI vu), .int (iI vl), .ref xr, .ref xh, .ref xo, .ref xp, .int (iI vr), .int (iI va), .int (iI vt), .int (iI vm), .int (iI vd), .int (iI vx)]), (xw, aI g 72000 f2_17)]) (cn := 0) (sn := 0) (sn2 := []) rfl rfl rfl rfl ?_
          refine v_aload_n fx 1 dX8_encode_189 rfl rfl ?_
          refine v_get fx 6 8 inX8 k1004 dX8_encode_190 rfl rfl (by decide) rfl rfl rfl ?_
          refine v_iconst fx dX8_encode_193 rfl ?_
          refine v_icmp_ne fx 202 dX8_encode_194 (by decide) rfl (by omega) (by omega) (fun h_19 => ?_) (fun h0 => absurd h0 (by omega))
          refine v_iinc fx 0 (3) [(1, .int (iI 3)), (0, .ref h0)] dX8_encode_202 rfl (by omega) (by decide) rfl rfl ?_
          refine v_goto fx 167 dX8_encode_205 (by decide) ?_
          refine v_iload_n fx 0 dX8_encode_167 rfl rfl ?_
          refine v_aload_n fx 1 dX8_encode_168 rfl rfl ?_
          refine v_get fx 6 8 inX8 k1004 dX8_encode_169 rfl rfl (by decide) rfl rfl rfl ?_
          refine v_iconst fx dX8_encode_172 rfl ?_
          refine v_icmp_ge fx 181 dX8_encode_173 (by decide) rfl (by omega) (by omega) (fun h0 => absurd h0 (by omega)) (fun h_20 => ?_)
          refine v_bipush fx dX8_encode_176 (by decide +kernel) rfl ?_
          refine v_goto fx 182 dX8_encode_178 (by decide) ?_
          refine v_icmp_ge fx 208 dX8_encode_182 (by decide) rfl (by omega) (by omega) (fun h0 => absurd h0 (by omega)) (fun h_21 => ?_)
          refine v_aload_n fx 1 dX8_encode_185 rfl rfl ?_
          refine v_callV (As := []) (rest := []) fx [6, 7] [0, 1, 2, 3, 4, 5] [(h0, ob 8 [.ref xa, .ref xb, .ref xc, .ref xd, .ref xe, .ref xf, .ref xg, .int (iI 0), .int (iI 0), .int (iI vw), .ref xm, .ref xv, .int (iI vg), .ref xw, .int (iI b2_16), .int (iI 1), .ref xq, .int (iI ve), .int (iI vf), .int (iI vu), .int (iI vl), .ref xr, .ref xh, .ref xo, .ref xp, .int (iI vr), .int (iI va), .int (iI vt), .int (iI vm), .int (iI vd), .int (iI vx)]), (xw, aI g 72000 f2_17)] [(xv, aZ g 72000 fg), (xa, aI g 64 (lfT mW 64)), (xb, aI g 64 (lfT mB 64)), (xc, aI g 27 (lfT mWM 27)), (xd, aI g 27 (lfT mBM 27)), (xe, aI g 13 (lfT mBO 13))] 0 0 (c_X8_mark l g h0 xa xb xc xd xe xf xg xm xv xw xq xr xh xo xp 0 0 vw vg b2_16 1 ve vf vu vl vr va vt vm vd vx f2_17 (by first | omega | decide | assumption) (by first | omega | decide | assumption)) dX8_encode_186 k1102 k1104 k21 k57 k1105 ykX8_mark rfl rfl rfl rfl rfl rfl rfl rfl (nl rfl) ⟨nl rfl, nl rfl⟩ ⟨(nl rfl), (nl rfl)⟩ rfl (fun v9 w9 hu => ?_)
          obtain ⟨b2_22, f2_23, rfl, rfl, u_24⟩ := hu
          refine v_is (wn := [(xv, aZ g 72000 fg), (xa, aI g 64 (lfT mW 64)), (xb, aI g 64 (lfT mB 64)), (xc, aI g 27 (lfT mWM 27)), (xd, aI g 27 (lfT mBM 27)), (xe, aI g 13 (lfT mBO 13)), (h0, ob 8 [.ref xa, .ref xb, .ref xc, .ref xd, .ref xe, .ref xf, .ref xg, .int (iI 0), .int (iI 0), .int (iI vw), .ref xm, .ref xv, .int (iI vg), .ref xw, .int (iI b2_22), .int (iI 1), .ref xq, .int (iI ve), .int (iI vf), .int (iI vu), .int (iI vl), .ref xr, .ref xh, .ref xo, .ref xp, .int (iI vr), .int (iI va), .int (iI vt), .int (iI vm), .int (iI vd), .int (iI vx)]), (xw, aI g 72000 f2_23)]) (cn := 0) (sn := 0) (sn2 := []) rfl rfl rfl rfl ?_
          refine v_aload_n fx 1 dX8_encode_189 rfl rfl ?_
          refine v_get fx 6 8 inX8 k1004 dX8_encode_190 rfl rfl (by decide) rfl rfl rfl ?_
          refine v_iconst fx dX8_encode_193 rfl ?_
          refine v_icmp_ne fx 202 dX8_encode_194 (by decide) rfl (by omega) (by omega) (fun h_25 => ?_) (fun h0 => absurd h0 (by omega))
          refine v_iinc fx 0 (4) [(1, .int (iI 4)), (0, .ref h0)] dX8_encode_202 rfl (by omega) (by decide) rfl rfl ?_
          refine v_goto fx 167 dX8_encode_205 (by decide) ?_
          refine v_iload_n fx 0 dX8_encode_167 rfl rfl ?_
          refine v_aload_n fx 1 dX8_encode_168 rfl rfl ?_
          refine v_get fx 6 8 inX8 k1004 dX8_encode_169 rfl rfl (by decide) rfl rfl rfl ?_
          refine v_iconst fx dX8_encode_172 rfl ?_
          refine v_icmp_ge fx 181 dX8_encode_173 (by decide) rfl (by omega) (by omega) (fun h0 => absurd h0 (by omega)) (fun h_26 => ?_)
          refine v_bipush fx dX8_encode_176 (by decide +kernel) rfl ?_
          refine v_goto fx 182 dX8_encode_178 (by decide) ?_
          refine v_icmp_ge fx 208 dX8_encode_182 (by decide) rfl (by omega) (by omega) (fun h0 => absurd h0 (by omega)) (fun h_27 => ?_)
          refine v_aload_n fx 1 dX8_encode_185 rfl rfl ?_
          refine v_callV (As := []) (rest := []) fx [6, 7] [0, 1, 2, 3, 4, 5] [(h0, ob 8 [.ref xa, .ref xb, .ref xc, .ref xd, .ref xe, .ref xf, .ref xg, .int (iI 0), .int (iI 0), .int (iI vw), .ref xm, .ref xv, .int (iI vg), .ref xw, .int (iI b2_22), .int (iI 1), .ref xq, .int (iI ve), .int (iI vf), .int (iI vu), .int (iI vl), .ref xr, .ref xh, .ref xo, .ref xp, .int (iI vr), .int (iI va), .int (iI vt), .int (iI vm), .int (iI vd), .int (iI vx)]), (xw, aI g 72000 f2_23)] [(xv, aZ g 72000 fg), (xa, aI g 64 (lfT mW 64)), (xb, aI g 64 (lfT mB 64)), (xc, aI g 27 (lfT mWM 27)), (xd, aI g 27 (lfT mBM 27)), (xe, aI g 13 (lfT mBO 13))] 0 0 (c_X8_mark l g h0 xa xb xc xd xe xf xg xm xv xw xq xr xh xo xp 0 0 vw vg b2_22 1 ve vf vu vl vr va vt vm vd vx f2_23 (by first | omega | decide | assumption) (by first | omega | decide | assumption)) dX8_encode_186 k1102 k1104 k21 k57 k1105 ykX8_mark rfl rfl rfl rfl rfl rfl rfl rfl (nl rfl) ⟨nl rfl, nl rfl⟩ ⟨(nl rfl), (nl rfl)⟩ rfl (fun v9 w9 hu => ?_)
          obtain ⟨b2_28, f2_29, rfl, rfl, u_30⟩ := hu
          refine v_is (wn := [(xv, aZ g 72000 fg), (xa, aI g 64 (lfT mW 64)), (xb, aI g 64 (lfT mB 64)), (xc, aI g 27 (lfT mWM 27)), (xd, aI g 27 (lfT mBM 27)), (xe, aI g 13 (lfT mBO 13)), (h0, ob 8 [.ref xa, .ref xb, .ref xc, .ref xd, .ref xe, .ref xf, .ref xg, .int (iI 0), .int (iI 0), .int (iI vw), .ref xm, .ref xv, .int (iI vg), .ref xw, .int (iI b2_28), .int (iI 1), .ref xq, .int (iI ve), .int (iI vf), .int (iI vu), .int (iI vl), .ref xr, .ref xh, .ref xo, .ref xp, .int (iI vr), .int (iI va), .int (iI vt), .int (iI vm), .int (iI vd), .int (iI vx)]), (xw, aI g 72000 f2_29)]) (cn := 0) (sn := 0) (sn2 := []) rfl rfl rfl rfl ?_
          refine v_aload_n fx 1 dX8_encode_189 rfl rfl ?_
          refine v_get fx 6 8 inX8 k1004 dX8_encode_190 rfl rfl (by decide) rfl rfl rfl ?_
          refine v_iconst fx dX8_encode_193 rfl ?_
          refine v_icmp_ne fx 202 dX8_encode_194 (by decide) rfl (by omega) (by omega) (fun h_31 => ?_) (fun h0 => absurd h0 (by omega))
          refine v_iinc fx 0 (5) [(1, .int (iI 5)), (0, .ref h0)] dX8_encode_202 rfl (by omega) (by decide) rfl rfl ?_
          refine v_goto fx 167 dX8_encode_205 (by decide) ?_
          refine v_iload_n fx 0 dX8_encode_167 rfl rfl ?_
          refine v_aload_n fx 1 dX8_encode_168 rfl rfl ?_
          refine v_get fx 6 8 inX8 k1004 dX8_encode_169 rfl rfl (by decide) rfl rfl rfl ?_
          refine v_iconst fx dX8_encode_172 rfl ?_
          refine v_icmp_ge fx 181 dX8_encode_173 (by decide) rfl (by omega) (by omega) (fun h0 => absurd h0 (by omega)) (fun h_32 => ?_)
          refine v_bipush fx dX8_encode_176 (by decide +kernel) rfl ?_
          refine v_goto fx 182 dX8_encode_178 (by decide) ?_
          refine v_icmp_ge fx 208 dX8_encode_182 (by decide) rfl (by omega) (by omega) (fun h0 => absurd h0 (by omega)) (fun h_33 => ?_)
          refine v_aload_n fx 1 dX8_encode_185 rfl rfl ?_
          refine v_callV (As := []) (rest := []) fx [6, 7] [0, 1, 2, 3, 4, 5] [(h0, ob 8 [.ref xa, .ref xb, .ref xc, .ref xd, .ref xe, .ref xf, .ref xg, .int (iI 0), .int (iI 0), .int (iI vw), .ref xm, .ref xv, .int (iI vg), .ref xw, .int (iI b2_28), .int (iI 1), .ref xq, .int (iI ve), .int (iI vf), .int (iI vu), .int (iI vl), .ref xr, .ref xh, .ref xo, .ref xp, .int (iI vr), .int (iI va), .int (iI vt), .int (iI vm), .int (iI vd), .int (iI vx)]), (xw, aI g 72000 f2_29)] [(xv, aZ g 72000 fg), (xa, aI g 64 (lfT mW 64)), (xb, aI g 64 (lfT mB 64)), (xc, aI g 27 (lfT mWM 27)), (xd, aI g 27 (lfT mBM 27)), (xe, aI g 13 (lfT mBO 13))] 0 0 (c_X8_mark l g h0 xa xb xc xd xe xf xg xm xv xw xq xr xh xo xp 0 0 vw vg b2_28 1 ve vf vu vl vr va vt vm vd vx f2_29 (by first | omega | decide | assumption) (by first | omega | decide | assumption)) dX8_encode_186 k1102 k1104 k21 k57 k1105 ykX8_mark rfl rfl rfl rfl rfl rfl rfl rfl (nl rfl) ⟨nl rfl, nl rfl⟩ ⟨(nl rfl), (nl rfl)⟩ rfl (fun v9 w9 hu => ?_)
          obtain ⟨b2_34, f2_35, rfl, rfl, u_36⟩ := hu
          refine v_is (wn := [(xv, aZ g 72000 fg), (xa, aI g 64 (lfT mW 64)), (xb, aI g 64 (lfT mB 64)), (xc, aI g 27 (lfT mWM 27)), (xd, aI g 27 (lfT mBM 27)), (xe, aI g 13 (lfT mBO 13)), (h0, ob 8 [.ref xa, .ref xb, .ref xc, .ref xd, .ref xe, .ref xf, .ref xg, .int (iI 0), .int (iI 0), .int (iI vw), .ref xm, .ref xv, .int (iI vg), .ref xw, .int (iI b2_34), .int (iI 1), .ref xq, .int (iI ve), .int (iI vf), .int (iI vu), .int (iI vl), .ref xr, .ref xh, .ref xo, .ref xp, .int (iI vr), .int (iI va), .int (iI vt), .int (iI vm), .int (iI vd), .int (iI vx)]), (xw, aI g 72000 f2_35)]) (cn := 0) (sn := 0) (sn2 := []) rfl rfl rfl rfl ?_
          refine v_aload_n fx 1 dX8_encode_189 rfl rfl ?_
          refine v_get fx 6 8 inX8 k1004 dX8_encode_190 rfl rfl (by decide) rfl rfl rfl ?_
          refine v_iconst fx dX8_encode_193 rfl ?_
          refine v_icmp_ne fx 202 dX8_encode_194 (by decide) rfl (by omega) (by omega) (fun h_37 => ?_) (fun h0 => absurd h0 (by omega))
          refine v_iinc fx 0 (6) [(1, .int (iI 6)), (0, .ref h0)] dX8_encode_202 rfl (by omega) (by decide) rfl rfl ?_
          refine v_goto fx 167 dX8_encode_205 (by decide) ?_
          refine v_iload_n fx 0 dX8_encode_167 rfl rfl ?_
          refine v_aload_n fx 1 dX8_encode_168 rfl rfl ?_
          refine v_get fx 6 8 inX8 k1004 dX8_encode_169 rfl rfl (by decide) rfl rfl rfl ?_
          refine v_iconst fx dX8_encode_172 rfl ?_
          refine v_icmp_ge fx 181 dX8_encode_173 (by decide) rfl (by omega) (by omega) (fun h0 => absurd h0 (by omega)) (fun h_38 => ?_)
          refine v_bipush fx dX8_encode_176 (by decide +kernel) rfl ?_
          refine v_goto fx 182 dX8_encode_178 (by decide) ?_
          refine v_icmp_ge fx 208 dX8_encode_182 (by decide) rfl (by omega) (by omega) (fun h_39 => ?_) (fun h0 => absurd h0 (by omega))
          refine v_aload_n fx 1 dX8_encode_208 rfl rfl ?_
          refine v_get fx 6 14 inX8 k1010 dX8_encode_209 rfl rfl (by decide) rfl rfl rfl ?_
          refine v_bipush fx dX8_encode_212 (by decide +kernel) rfl ?_
          refine v_iadd fx (b2_34 + 7) dX8_encode_214 (by rfl) rfl ?_
          refine v_bipush fx dX8_encode_215 (by decide +kernel) rfl ?_
          refine v_idiv fx (iI ((b2_34 + 7) / 8)) dX8_encode_217 (by decide) (iI_div (by omega) 8 (by decide) (by decide)) rfl ?_
          exact v_iret fx [(h0, ob 8 [.ref xa, .ref xb, .ref xc, .ref xd, .ref xe, .ref xf, .ref xg, .int (iI 0), .int (iI 0), .int (iI vw), .ref xm, .ref xv, .int (iI vg), .ref xw, .int (iI b2_34), .int (iI 1), .ref xq, .int (iI ve), .int (iI vf), .int (iI vu), .int (iI vl), .ref xr, .ref xh, .ref xo, .ref xp, .int (iI vr), .int (iI va), .int (iI vt), .int (iI vm), .int (iI vd), .int (iI vx)]), (xw, aI g 72000 f2_35), (xv, aZ g 72000 fg), (xa, aI g 64 (lfT mW 64)), (xb, aI g 64 (lfT mB 64)), (xc, aI g 27 (lfT mWM 27)), (xd, aI g 27 (lfT mBM 27)), (xe, aI g 13 (lfT mBO 13))] [6, 7, 0, 1, 2, 3, 4, 5] hr dX8_encode_218 rfl rfl (nl rfl) (nl rfl) ⟨((b2_34 + 7) / 8), b2_34, f2_35, rfl, rfl, (by first | omega | rfl | assumption), (by first | omega | rfl | assumption)⟩
        ·
          refine v_iconst fx dX8_encode_165 rfl ?_
          refine v_istore_n fx [(1, .int (iI 0)), (0, .ref h0)] dX8_encode_166 (by decide) rfl rfl ?_
          refine v_iload_n fx 0 dX8_encode_167 rfl rfl ?_
          refine v_aload_n fx 1 dX8_encode_168 rfl rfl ?_
          refine v_get fx 0 8 inX8 k1004 dX8_encode_169 rfl rfl (by decide) rfl rfl rfl ?_
          refine v_iconst fx dX8_encode_172 rfl ?_
          refine v_icmp_ge fx 181 dX8_encode_173 (by decide) rfl (by omega) (by omega) (fun h0 => absurd h0 (by omega)) (fun h_40 => ?_)
          refine v_bipush fx dX8_encode_176 (by decide +kernel) rfl ?_
          refine v_goto fx 182 dX8_encode_178 (by decide) ?_
          refine v_icmp_ge fx 208 dX8_encode_182 (by decide) rfl (by omega) (by omega) (fun h0 => absurd h0 (by omega)) (fun h_41 => ?_)
          refine v_aload_n fx 1 dX8_encode_185 rfl rfl ?_
          refine v_callV (As := []) (rest := []) fx [0, 1] [2, 3, 4, 5, 6, 7] [(h0, ob 8 [.ref xa, .ref xb, .ref xc, .ref xd, .ref xe, .ref xf, .ref xg, .int (iI 0), .int (iI 1), .int (iI vw), .ref xm, .ref xv, .int (iI vg), .ref xw, .int (iI b1), .int (iI 1), .ref xq, .int (iI ve), .int (iI vf), .int (iI vu), .int (iI vl), .ref xr, .ref xh, .ref xo, .ref xp, .int (iI vr), .int (iI va), .int (iI vt), .int (iI vm), .int (iI vd), .int (iI vx)]), (xw, aI g 72000 f1)] [(xv, aZ g 72000 fg), (xa, aI g 64 (lfT mW 64)), (xb, aI g 64 (lfT mB 64)), (xc, aI g 27 (lfT mWM 27)), (xd, aI g 27 (lfT mBM 27)), (xe, aI g 13 (lfT mBO 13))] 0 0 (c_X8_mark l g h0 xa xb xc xd xe xf xg xm xv xw xq xr xh xo xp 0 1 vw vg b1 1 ve vf vu vl vr va vt vm vd vx f1 (by first | omega | decide | assumption) (by first | omega | decide | assumption)) dX8_encode_186 k1102 k1104 k21 k57 k1105 ykX8_mark rfl rfl rfl rfl rfl rfl rfl rfl (nl rfl) ⟨nl rfl, nl rfl⟩ ⟨(nl rfl), (nl rfl)⟩ rfl (fun v9 w9 hu => ?_)
          obtain ⟨b2_42, f2_43, rfl, rfl, u_44⟩ := hu
          refine v_is (wn := [(xv, aZ g 72000 fg), (xa, aI g 64 (lfT mW 64)), (xb, aI g 64 (lfT mB 64)), (xc, aI g 27 (lfT mWM 27)), (xd, aI g 27 (lfT mBM 27)), (xe, aI g 13 (lfT mBO 13)), (h0, ob 8 [.ref xa, .ref xb, .ref xc, .ref xd, .ref xe, .ref xf, .ref xg, .int (iI 0), .int (iI 1), .int (iI vw), .ref xm, .ref xv, .int (iI vg), .ref xw, .int (iI b2_42), .int (iI 1), .ref xq, .int (iI ve), .int (iI vf), .int (iI vu), .int (iI vl), .ref xr, .ref xh, .ref xo, .ref xp, .int (iI vr), .int (iI va), .int (iI vt), .int (iI vm), .int (iI vd), .int (iI vx)]), (xw, aI g 72000 f2_43)]) (cn := 0) (sn := 0) (sn2 := []) rfl rfl rfl rfl ?_
          refine v_aload_n fx 1 dX8_encode_189 rfl rfl ?_
          refine v_get fx 6 8 inX8 k1004 dX8_encode_190 rfl rfl (by decide) rfl rfl rfl ?_
          refine v_iconst fx dX8_encode_193 rfl ?_
          refine v_icmp_ne fx 202 dX8_encode_194 (by decide) rfl (by omega) (by omega) (fun h0 => absurd h0 (by omega)) (fun h_45 => ?_)
          refine v_aload_n fx 1 dX8_encode_197 rfl rfl ?_
          refine v_iconst fx dX8_encode_198 rfl ?_
          refine v_callV (As := [.int (iI 1)]) (rest := []) fx [6, 7] [0, 1, 2, 3, 4, 5] [(h0, ob 8 [.ref xa, .ref xb, .ref xc, .ref xd, .ref xe, .ref xf, .ref xg, .int (iI 0), .int (iI 1), .int (iI vw), .ref xm, .ref xv, .int (iI vg), .ref xw, .int (iI b2_42), .int (iI 1), .ref xq, .int (iI ve), .int (iI vf), .int (iI vu), .int (iI vl), .ref xr, .ref xh, .ref xo, .ref xp, .int (iI vr), .int (iI va), .int (iI vt), .int (iI vm), .int (iI vd), .int (iI vx)]), (xw, aI g 72000 f2_43)] [(xv, aZ g 72000 fg), (xa, aI g 64 (lfT mW 64)), (xb, aI g 64 (lfT mB 64)), (xc, aI g 27 (lfT mWM 27)), (xd, aI g 27 (lfT mBM 27)), (xe, aI g 13 (lfT mBO 13))] 1 0 (c_X8_bit l g h0 xa xb xc xd xe xf xg xm xv xw xq xr xh xo xp 0 1 vw vg b2_42 1 ve vf vu vl vr va vt vm vd vx f2_43 (iI 1) (by first | omega | decide | assumption) (by first | omega | decide | assumption)) dX8_encode_199 k1110 k1112 k23 k57 k1113 ykX8_bit rfl rfl rfl rfl rfl rfl rfl rfl (nl rfl) ⟨nl rfl, nl rfl⟩ ⟨(nl rfl), (nl rfl)⟩ rfl (fun v9 w9 hu => ?_)
          obtain ⟨f2_46, rfl, rfl⟩ := hu
          refine v_is (wn := [(xv, aZ g 72000 fg), (xa, aI g 64 (lfT mW 64)), (xb, aI g 64 (lfT mB 64)), (xc, aI g 27 (lfT mWM 27)), (xd, aI g 27 (lfT mBM 27)), (xe, aI g 13 (lfT mBO 13)), (h0, ob 8 [.ref xa, .ref xb, .ref xc, .ref xd, .ref xe, .ref xf, .ref xg, .int (iI 0), .int (iI 1), .int (iI vw), .ref xm, .ref xv, .int (iI vg), .ref xw, .int (iI (b2_42 + 1)), .int (iI 1), .ref xq, .int (iI ve), .int (iI vf), .int (iI vu), .int (iI vl), .ref xr, .ref xh, .ref xo, .ref xp, .int (iI vr), .int (iI va), .int (iI vt), .int (iI vm), .int (iI vd), .int (iI vx)]), (xw, aI g 72000 f2_46)]) (cn := 0) (sn := 0) (sn2 := []) rfl rfl rfl rfl ?_
          refine v_iinc fx 0 (1) [(1, .int (iI 1)), (0, .ref h0)] dX8_encode_202 rfl (by omega) (by decide) rfl rfl ?_
          refine v_goto fx 167 dX8_encode_205 (by decide) ?_
          refine v_iload_n fx 0 dX8_encode_167 rfl rfl ?_
          refine v_aload_n fx 1 dX8_encode_168 rfl rfl ?_
          refine v_get fx 6 8 inX8 k1004 dX8_encode_169 rfl rfl (by decide) rfl rfl rfl ?_
          refine v_iconst fx dX8_encode_172 rfl ?_
          refine v_icmp_ge fx 181 dX8_encode_173 (by decide) rfl (by omega) (by omega) (fun h0 => absurd h0 (by omega)) (fun h_47 => ?_)
          refine v_bipush fx dX8_encode_176 (by decide +kernel) rfl ?_
          refine v_goto fx 182 dX8_encode_178 (by decide) ?_
          refine v_icmp_ge fx 208 dX8_encode_182 (by decide) rfl (by omega) (by omega) (fun h0 => absurd h0 (by omega)) (fun h_48 => ?_)
          refine v_aload_n fx 1 dX8_encode_185 rfl rfl ?_
          refine v_callV (As := []) (rest := []) fx [6, 7] [0, 1, 2, 3, 4, 5] [(h0, ob 8 [.ref xa, .ref xb, .ref xc, .ref xd, .ref xe, .ref xf, .ref xg, .int (iI 0), .int (iI 1), .int (iI vw), .ref xm, .ref xv, .int (iI vg), .ref xw, .int (iI (b2_42 + 1)), .int (iI 1), .ref xq, .int (iI ve), .int (iI vf), .int (iI vu), .int (iI vl), .ref xr, .ref xh, .ref xo, .ref xp, .int (iI vr), .int (iI va), .int (iI vt), .int (iI vm), .int (iI vd), .int (iI vx)]), (xw, aI g 72000 f2_46)] [(xv, aZ g 72000 fg), (xa, aI g 64 (lfT mW 64)), (xb, aI g 64 (lfT mB 64)), (xc, aI g 27 (lfT mWM 27)), (xd, aI g 27 (lfT mBM 27)), (xe, aI g 13 (lfT mBO 13))] 0 0 (c_X8_mark l g h0 xa xb xc xd xe xf xg xm xv xw xq xr xh xo xp 0 1 vw vg (b2_42 + 1) 1 ve vf vu vl vr va vt vm vd vx f2_46 (by first | omega | decide | assumption) (by first | omega | decide | assumption)) dX8_encode_186 k1102 k1104 k21 k57 k1105 ykX8_mark rfl rfl rfl rfl rfl rfl rfl rfl (nl rfl) ⟨nl rfl, nl rfl⟩ ⟨(nl rfl), (nl rfl)⟩ rfl (fun v9 w9 hu => ?_)
          obtain ⟨b2_49, f2_50, rfl, rfl, u_51⟩ := hu
          refine v_is (wn := [(xv, aZ g 72000 fg), (xa, aI g 64 (lfT mW 64)), (xb, aI g 64 (lfT mB 64)), (xc, aI g 27 (lfT mWM 27)), (xd, aI g 27 (lfT mBM 27)), (xe, aI g 13 (lfT mBO 13)), (h0, ob 8 [.ref xa, .ref xb, .ref xc, .ref xd, .ref xe, .ref xf, .ref xg, .int (iI 0), .int (iI 1), .int (iI vw), .ref xm, .ref xv, .int (iI vg), .ref xw, .int (iI b2_49), .int (iI 1), .ref xq, .int (iI ve), .int (iI vf), .int (iI vu), .int (iI vl), .ref xr, .ref xh, .ref xo, .ref xp, .int (iI vr), .int (iI va), .int (iI vt), .int (iI vm), .int (iI vd), .int (iI vx)]), (xw, aI g 72000 f2_50)]) (cn := 0) (sn := 0) (sn2 := []) rfl rfl rfl rfl ?_
          refine v_aload_n fx 1 dX8_encode_189 rfl rfl ?_
          refine v_get fx 6 8 inX8 k1004 dX8_encode_190 rfl rfl (by decide) rfl rfl rfl ?_
          refine v_iconst fx dX8_encode_193 rfl ?_
          refine v_icmp_ne fx 202 dX8_encode_194 (by decide) rfl (by omega) (by omega) (fun h0 => absurd h0 (by omega)) (fun h_52 => ?_)
          refine v_aload_n fx 1 dX8_encode_197 rfl rfl ?_
          refine v_iconst fx dX8_encode_198 rfl ?_
          refine v_callV (As := [.int (iI 1)]) (rest := []) fx [6, 7] [0, 1, 2, 3, 4, 5] [(h0, ob 8 [.ref xa, .ref xb, .ref xc, .ref xd, .ref xe, .ref xf, .ref xg, .int (iI 0), .int (iI 1), .int (iI vw), .ref xm, .ref xv, .int (iI vg), .ref xw, .int (iI b2_49), .int (iI 1), .ref xq, .int (iI ve), .int (iI vf), .int (iI vu), .int (iI vl), .ref xr, .ref xh, .ref xo, .ref xp, .int (iI vr), .int (iI va), .int (iI vt), .int (iI vm), .int (iI vd), .int (iI vx)]), (xw, aI g 72000 f2_50)] [(xv, aZ g 72000 fg), (xa, aI g 64 (lfT mW 64)), (xb, aI g 64 (lfT mB 64)), (xc, aI g 27 (lfT mWM 27)), (xd, aI g 27 (lfT mBM 27)), (xe, aI g 13 (lfT mBO 13))] 1 0 (c_X8_bit l g h0 xa xb xc xd xe xf xg xm xv xw xq xr xh xo xp 0 1 vw vg b2_49 1 ve vf vu vl vr va vt vm vd vx f2_50 (iI 1) (by first | omega | decide | assumption) (by first | omega | decide | assumption)) dX8_encode_199 k1110 k1112 k23 k57 k1113 ykX8_bit rfl rfl rfl rfl rfl rfl rfl rfl (nl rfl) ⟨nl rfl, nl rfl⟩ ⟨(nl rfl), (nl rfl)⟩ rfl (fun v9 w9 hu => ?_)
          obtain ⟨f2_53, rfl, rfl⟩ := hu
          refine v_is (wn := [(xv, aZ g 72000 fg), (xa, aI g 64 (lfT mW 64)), (xb, aI g 64 (lfT mB 64)), (xc, aI g 27 (lfT mWM 27)), (xd, aI g 27 (lfT mBM 27)), (xe, aI g 13 (lfT mBO 13)), (h0, ob 8 [.ref xa, .ref xb, .ref xc, .ref xd, .ref xe, .ref xf, .ref xg, .int (iI 0), .int (iI 1), .int (iI vw), .ref xm, .ref xv, .int (iI vg), .ref xw, .int (iI (b2_49 + 1)), .int (iI 1), .ref xq, .int (iI ve), .int (iI vf), .int (iI vu), .int (iI vl), .ref xr, .ref xh, .ref xo, .ref xp, .int (iI vr), .int (iI va), .int (iI vt), .int (iI vm), .int (iI vd), .int (iI vx)]), (xw, aI g 72000 f2_53)]) (cn := 0) (sn := 0) (sn2 := []) rfl rfl rfl rfl ?_
          refine v_iinc fx 0 (2) [(1, .int (iI 2)), (0, .ref h0)] dX8_encode_202 rfl (by omega) (by decide) rfl rfl ?_
          refine v_goto fx 167 dX8_encode_205 (by decide) ?_
          refine v_iload_n fx 0 dX8_encode_167 rfl rfl ?_
          refine v_aload_n fx 1 dX8_encode_168 rfl rfl ?_
          refine v_get fx 6 8 inX8 k1004 dX8_encode_169 rfl rfl (by decide) rfl rfl rfl ?_
          refine v_iconst fx dX8_encode_172 rfl ?_
          refine v_icmp_ge fx 181 dX8_encode_173 (by decide) rfl (by omega) (by omega) (fun h0 => absurd h0 (by omega)) (fun h_54 => ?_)
          refine v_bipush fx dX8_encode_176 (by decide +kernel) rfl ?_
          refine v_goto fx 182 dX8_encode_178 (by decide) ?_
          refine v_icmp_ge fx 208 dX8_encode_182 (by decide) rfl (by omega) (by omega) (fun h0 => absurd h0 (by omega)) (fun h_55 => ?_)
          refine v_aload_n fx 1 dX8_encode_185 rfl rfl ?_
          refine v_callV (As := []) (rest := []) fx [6, 7] [0, 1, 2, 3, 4, 5] [(h0, ob 8 [.ref xa, .ref xb, .ref xc, .ref xd, .ref xe, .ref xf, .ref xg, .int (iI 0), .int (iI 1), .int (iI vw), .ref xm, .ref xv, .int (iI vg), .ref xw, .int (iI (b2_49 + 1)), .int (iI 1), .ref xq, .int (iI ve), .int (iI vf), .int (iI vu), .int (iI vl), .ref xr, .ref xh, .ref xo, .ref xp, .int (iI vr), .int (iI va), .int (iI vt), .int (iI vm), .int (iI vd), .int (iI vx)]), (xw, aI g 72000 f2_53)] [(xv, aZ g 72000 fg), (xa, aI g 64 (lfT mW 64)), (xb, aI g 64 (lfT mB 64)), (xc, aI g 27 (lfT mWM 27)), (xd, aI g 27 (lfT mBM 27)), (xe, aI g 13 (lfT mBO 13))] 0 0 (c_X8_mark l g h0 xa xb xc xd xe xf xg xm xv xw xq xr xh xo xp 0 1 vw vg (b2_49 + 1) 1 ve vf vu vl vr va vt vm vd vx f2_53 (by first | omega | decide | assumption) (by first | omega | decide | assumption)) dX8_encode_186 k1102 k1104 k21 k57 k1105 ykX8_mark rfl rfl rfl rfl rfl rfl rfl rfl (nl rfl) ⟨nl rfl, nl rfl⟩ ⟨(nl rfl), (nl rfl)⟩ rfl (fun v9 w9 hu => ?_)
          obtain ⟨b2_56, f2_57, rfl, rfl, u_58⟩ := hu
          refine v_is (wn := [(xv, aZ g 72000 fg), (xa, aI g 64 (lfT mW 64)), (xb, aI g 64 (lfT mB 64)), (xc, aI g 27 (lfT mWM 27)), (xd, aI g 27 (lfT mBM 27)), (xe, aI g 13 (lfT mBO 13)), (h0, ob 8 [.ref xa, .ref xb, .ref xc, .ref xd, .ref xe, .ref xf, .ref xg, .int (iI 0), .int (iI 1), .int (iI vw), .ref xm, .ref xv, .int (iI vg), .ref xw, .int (iI b2_56), .int (iI 1), .ref xq, .int (iI ve), .int (iI vf), .int (iI vu), .int (iI vl), .ref xr, .ref xh, .ref xo, .ref xp, .int (iI vr), .int (iI va), .int (iI vt), .int (iI vm), .int (iI vd), .int (iI vx)]), (xw, aI g 72000 f2_57)]) (cn := 0) (sn := 0) (sn2 := []) rfl rfl rfl rfl ?_
          refine v_aload_n fx 1 dX8_encode_189 rfl rfl ?_
          refine v_get fx 6 8 inX8 k1004 dX8_encode_190 rfl rfl (by decide) rfl rfl rfl ?_
          refine v_iconst fx dX8_encode_193 rfl ?_
          refine v_icmp_ne fx 202 dX8_encode_194 (by decide) rfl (by omega) (by omega) (fun h0 => absurd h0 (by omega)) (fun h_59 => ?_)
          refine v_aload_n fx 1 dX8_encode_197 rfl rfl ?_
          refine v_iconst fx dX8_encode_198 rfl ?_
          refine v_callV (As := [.int (iI 1)]) (rest := []) fx [6, 7] [0, 1, 2, 3, 4, 5] [(h0, ob 8 [.ref xa, .ref xb, .ref xc, .ref xd, .ref xe, .ref xf, .ref xg, .int (iI 0), .int (iI 1), .int (iI vw), .ref xm, .ref xv, .int (iI vg), .ref xw, .int (iI b2_56), .int (iI 1), .ref xq, .int (iI ve), .int (iI vf), .int (iI vu), .int (iI vl), .ref xr, .ref xh, .ref xo, .ref xp, .int (iI vr), .int (iI va), .int (iI vt), .int (iI vm), .int (iI vd), .int (iI vx)]), (xw, aI g 72000 f2_57)] [(xv, aZ g 72000 fg), (xa, aI g 64 (lfT mW 64)), (xb, aI g 64 (lfT mB 64)), (xc, aI g 27 (lfT mWM 27)), (xd, aI g 27 (lfT mBM 27)), (xe, aI g 13 (lfT mBO 13))] 1 0 (c_X8_bit l g h0 xa xb xc xd xe xf xg xm xv xw xq xr xh xo xp 0 1 vw vg b2_56 1 ve vf vu vl vr va vt vm vd vx f2_57 (iI 1) (by first | omega | decide | assumption) (by first | omega | decide | assumption)) dX8_encode_199 k1110 k1112 k23 k57 k1113 ykX8_bit rfl rfl rfl rfl rfl rfl rfl rfl (nl rfl) ⟨nl rfl, nl rfl⟩ ⟨(nl rfl), (nl rfl)⟩ rfl (fun v9 w9 hu => ?_)
          obtain ⟨f2_60, rfl, rfl⟩ := hu
          refine v_is (wn := [(xv, aZ g 72000 fg), (xa, aI g 64 (lfT mW 64)), (xb, aI g 64 (lfT mB 64)), (xc, aI g 27 (lfT mWM 27)), (xd, aI g 27 (lfT mBM 27)), (xe, aI g 13 (lfT mBO 13)), (h0, ob 8 [.ref xa, .ref xb, .ref xc, .ref xd, .ref xe, .ref xf, .ref xg, .int (iI 0), .int (iI 1), .int (iI vw), .ref xm, .ref xv, .int (iI vg), .ref xw, .int (iI (b2_56 + 1)), .int (iI 1), .ref xq, .int (iI ve), .int (iI vf), .int (iI vu), .int (iI vl), .ref xr, .ref xh, .ref xo, .ref xp, .int (iI vr), .int (iI va), .int (iI vt), .int (iI vm), .int (iI vd), .int (iI vx)]), (xw, aI g 72000 f2_60)]) (cn := 0) (sn := 0) (sn2 := []) rfl rfl rfl rfl ?_
          refine v_iinc fx 0 (3) [(1, .int (iI 3)), (0, .ref h0)] dX8_encode_202 rfl (by omega) (by decide) rfl rfl ?_
          refine v_goto fx 167 dX8_encode_205 (by decide) ?_
          refine v_iload_n fx 0 dX8_encode_167 rfl rfl ?_
          refine v_aload_n fx 1 dX8_encode_168 rfl rfl ?_
          refine v_get fx 6 8 inX8 k1004 dX8_encode_169 rfl rfl (by decide) rfl rfl rfl ?_
          refine v_iconst fx dX8_encode_172 rfl ?_
          refine v_icmp_ge fx 181 dX8_encode_173 (by decide) rfl (by omega) (by omega) (fun h0 => absurd h0 (by omega)) (fun h_61 => ?_)
          refine v_bipush fx dX8_encode_176 (by decide +kernel) rfl ?_
          refine v_goto fx 182 dX8_encode_178 (by decide) ?_
          refine v_icmp_ge fx 208 dX8_encode_182 (by decide) rfl (by omega) (by omega) (fun h0 => absurd h0 (by omega)) (fun h_62 => ?_)
          refine v_aload_n fx 1 dX8_encode_185 rfl rfl ?_
          refine v_callV (As := []) (rest := []) fx [6, 7] [0, 1, 2, 3, 4, 5] [(h0, ob 8 [.ref xa, .ref xb, .ref xc, .ref xd, .ref xe, .ref xf, .ref xg, .int (iI 0), .int (iI 1), .int (iI vw), .ref xm, .ref xv, .int (iI vg), .ref xw, .int (iI (b2_56 + 1)), .int (iI 1), .ref xq, .int (iI ve), .int (iI vf), .int (iI vu), .int (iI vl), .ref xr, .ref xh, .ref xo, .ref xp, .int (iI vr), .int (iI va), .int (iI vt), .int (iI vm), .int (iI vd), .int (iI vx)]), (xw, aI g 72000 f2_60)] [(xv, aZ g 72000 fg), (xa, aI g 64 (lfT mW 64)), (xb, aI g 64 (lfT mB 64)), (xc, aI g 27 (lfT mWM 27)), (xd, aI g 27 (lfT mBM 27)), (xe, aI g 13 (lfT mBO 13))] 0 0 (c_X8_mark l g h0 xa xb xc xd xe xf xg xm xv xw xq xr xh xo xp 0 1 vw vg (b2_56 + 1) 1 ve vf vu vl vr va vt vm vd vx f2_60 (by first | omega | decide | assumption) (by first | omega | decide | assumption)) dX8_encode_186 k1102 k1104 k21 k57 k1105 ykX8_mark rfl rfl rfl rfl rfl rfl rfl rfl (nl rfl) ⟨nl rfl, nl rfl⟩ ⟨(nl rfl), (nl rfl)⟩ rfl (fun v9 w9 hu => ?_)
          obtain ⟨b2_63, f2_64, rfl, rfl, u_65⟩ := hu
          refine v_is (wn := [(xv, aZ g 72000 fg), (xa, aI g 64 (lfT mW 64)), (xb, aI g 64 (lfT mB 64)), (xc, aI g 27 (lfT mWM 27)), (xd, aI g 27 (lfT mBM 27)), (xe, aI g 13 (lfT mBO 13)), (h0, ob 8 [.ref xa, .ref xb, .ref xc, .ref xd, .ref xe, .ref xf, .ref xg, .int (iI 0), .int (iI 1), .int (iI vw), .ref xm, .ref xv, .int (iI vg), .ref xw, .int (iI b2_63), .int (iI 1), .ref xq, .int (iI ve), .int (iI vf), .int (iI vu), .int (iI vl), .ref xr, .ref xh, .ref xo, .ref xp, .int (iI vr), .int (iI va), .int (iI vt), .int (iI vm), .int (iI vd), .int (iI vx)]), (xw, aI g 72000 f2_64)]) (cn := 0) (sn := 0) (sn2 := []) rfl rfl rfl rfl ?_
          refine v_aload_n fx 1 dX8_encode_189 rfl rfl ?_
          refine v_get fx 6 8 inX8 k1004 dX8_encode_190 rfl rfl (by decide) rfl rfl rfl ?_
          refine v_iconst fx dX8_encode_193 rfl ?_
          refine v_icmp_ne fx 202 dX8_encode_194 (by decide) rfl (by omega) (by omega) (fun h0 => absurd h0 (by omega)) (fun h_66 => ?_)
          refine v_aload_n fx 1 dX8_encode_197 rfl rfl ?_
          refine v_iconst fx dX8_encode_198 rfl ?_
          refine v_callV (As := [.int (iI 1)]) (rest := []) fx [6, 7] [0, 1, 2, 3, 4, 5] [(h0, ob 8 [.ref xa, .ref xb, .ref xc, .ref xd, .ref xe, .ref xf, .ref xg, .int (iI 0), .int (iI 1), .int (iI vw), .ref xm, .ref xv, .int (iI vg), .ref xw, .int (iI b2_63), .int (iI 1), .ref xq, .int (iI ve), .int (iI vf), .int (iI vu), .int (iI vl), .ref xr, .ref xh, .ref xo, .ref xp, .int (iI vr), .int (iI va), .int (iI vt), .int (iI vm), .int (iI vd), .int (iI vx)]), (xw, aI g 72000 f2_64)] [(xv, aZ g 72000 fg), (xa, aI g 64 (lfT mW 64)), (xb, aI g 64 (lfT mB 64)), (xc, aI g 27 (lfT mWM 27)), (xd, aI g 27 (lfT mBM 27)), (xe, aI g 13 (lfT mBO 13))] 1 0 (c_X8_bit l g h0 xa xb xc xd xe xf xg xm xv xw xq xr xh xo xp 0 1 vw vg b2_63 1 ve vf vu vl vr va vt vm vd vx f2_64 (iI 1) (by first | omega | decide | assumption) (by first | omega | decide | assumption)) dX8_encode_199 k1110 k1112 k23 k57 k1113 ykX8_bit rfl rfl rfl rfl rfl rfl rfl rfl (nl rfl) ⟨nl rfl, nl rfl⟩ ⟨(nl rfl), (nl rfl)⟩ rfl (fun v9 w9 hu => ?_)
          obtain ⟨f2_67, rfl, rfl⟩ := hu
          refine v_is (wn := [(xv, aZ g 72000 fg), (xa, aI g 64 (lfT mW 64)), (xb, aI g 64 (lfT mB 64)), (xc, aI g 27 (lfT mWM 27)), (xd, aI g 27 (lfT mBM 27)), (xe, aI g 13 (lfT mBO 13)), (h0, ob 8 [.ref xa, .ref xb, .ref xc, .ref xd, .ref xe, .ref xf, .ref xg, .int (iI 0), .int (iI 1), .int (iI vw), .ref xm, .ref xv, .int (iI vg), .ref xw, .int (iI (b2_63 + 1)), .int (iI 1), .ref xq, .int (iI ve), .int (iI vf), .int (iI vu), .int (iI vl), .ref xr, .ref xh, .ref xo, .ref xp, .int (iI vr), .int (iI va), .int (iI vt), .int (iI vm), .int (iI vd), .int (iI vx)]), (xw, aI g 72000 f2_67)]) (cn := 0) (sn := 0) (sn2 := []) rfl rfl rfl rfl ?_
          refine v_iinc fx 0 (4) [(1, .int (iI 4)), (0, .ref h0)] dX8_encode_202 rfl (by omega) (by decide) rfl rfl ?_
          refine v_goto fx 167 dX8_encode_205 (by decide) ?_
          refine v_iload_n fx 0 dX8_encode_167 rfl rfl ?_
          refine v_aload_n fx 1 dX8_encode_168 rfl rfl ?_
          refine v_get fx 6 8 inX8 k1004 dX8_encode_169 rfl rfl (by decide) rfl rfl rfl ?_
          refine v_iconst fx dX8_encode_172 rfl ?_
          refine v_icmp_ge fx 181 dX8_encode_173 (by decide) rfl (by omega) (by omega) (fun h0 => absurd h0 (by omega)) (fun h_68 => ?_)
          refine v_bipush fx dX8_encode_176 (by decide +kernel) rfl ?_
          refine v_goto fx 182 dX8_encode_178 (by decide) ?_
          refine v_icmp_ge fx 208 dX8_encode_182 (by decide) rfl (by omega) (by omega) (fun h0 => absurd h0 (by omega)) (fun h_69 => ?_)
          refine v_aload_n fx 1 dX8_encode_185 rfl rfl ?_
          refine v_callV (As := []) (rest := []) fx [6, 7] [0, 1, 2, 3, 4, 5] [(h0, ob 8 [.ref xa, .ref xb, .ref xc, .ref xd, .ref xe, .ref xf, .ref xg, .int (iI 0), .int (iI 1), .int (iI vw), .ref xm, .ref xv, .int (iI vg), .ref xw, .int (iI (b2_63 + 1)), .int (iI 1), .ref xq, .int (iI ve), .int (iI vf), .int (iI vu), .int (iI vl), .ref xr, .ref xh, .ref xo, .ref xp, .int (iI vr), .int (iI va), .int (iI vt), .int (iI vm), .int (iI vd), .int (iI vx)]), (xw, aI g 72000 f2_67)] [(xv, aZ g 72000 fg), (xa, aI g 64 (lfT mW 64)), (xb, aI g 64 (lfT mB 64)), (xc, aI g 27 (lfT mWM 27)), (xd, aI g 27 (lfT mBM 27)), (xe, aI g 13 (lfT mBO 13))] 0 0 (c_X8_mark l g h0 xa xb xc xd xe xf xg xm xv xw xq xr xh xo xp 0 1 vw vg (b2_63 + 1) 1 ve vf vu vl vr va vt vm vd vx f2_67 (by first | omega | decide | assumption) (by first | omega | decide | assumption)) dX8_encode_186 k1102 k1104 k21 k57 k1105 ykX8_mark rfl rfl rfl rfl rfl rfl rfl rfl (nl rfl) ⟨nl rfl, nl rfl⟩ ⟨(nl rfl), (nl rfl)⟩ rfl (fun v9 w9 hu => ?_)
          obtain ⟨b2_70, f2_71, rfl, rfl, u_72⟩ := hu
          refine v_is (wn := [(xv, aZ g 72000 fg), (xa, aI g 64 (lfT mW 64)), (xb, aI g 64 (lfT mB 64)), (xc, aI g 27 (lfT mWM 27)), (xd, aI g 27 (lfT mBM 27)), (xe, aI g 13 (lfT mBO 13)), (h0, ob 8 [.ref xa, .ref xb, .ref xc, .ref xd, .ref xe, .ref xf, .ref xg, .int (iI 0), .int (iI 1), .int (iI vw), .ref xm, .ref xv, .int (iI vg), .ref xw, .int (iI b2_70), .int (iI 1), .ref xq, .int (iI ve), .int (iI vf), .int (iI vu), .int (iI vl), .ref xr, .ref xh, .ref xo, .ref xp, .int (iI vr), .int (iI va), .int (iI vt), .int (iI vm), .int (iI vd), .int (iI vx)]), (xw, aI g 72000 f2_71)]) (cn := 0) (sn := 0) (sn2 := []) rfl rfl rfl rfl ?_
          refine v_aload_n fx 1 dX8_encode_189 rfl rfl ?_
          refine v_get fx 6 8 inX8 k1004 dX8_encode_190 rfl rfl (by decide) rfl rfl rfl ?_
          refine v_iconst fx dX8_encode_193 rfl ?_
          refine v_icmp_ne fx 202 dX8_encode_194 (by decide) rfl (by omega) (by omega) (fun h0 => absurd h0 (by omega)) (fun h_73 => ?_)
          refine v_aload_n fx 1 dX8_encode_197 rfl rfl ?_
          refine v_iconst fx dX8_encode_198 rfl ?_
          refine v_callV (As := [.int (iI 1)]) (rest := []) fx [6, 7] [0, 1, 2, 3, 4, 5] [(h0, ob 8 [.ref xa, .ref xb, .ref xc, .ref xd, .ref xe, .ref xf, .ref xg, .int (iI 0), .int (iI 1), .int (iI vw), .ref xm, .ref xv, .int (iI vg), .ref xw, .int (iI b2_70), .int (iI 1), .ref xq, .int (iI ve), .int (iI vf), .int (iI vu), .int (iI vl), .ref xr, .ref xh, .ref xo, .ref xp, .int (iI vr), .int (iI va), .int (iI vt), .int (iI vm), .int (iI vd), .int (iI vx)]), (xw, aI g 72000 f2_71)] [(xv, aZ g 72000 fg), (xa, aI g 64 (lfT mW 64)), (xb, aI g 64 (lfT mB 64)), (xc, aI g 27 (lfT mWM 27)), (xd, aI g 27 (lfT mBM 27)), (xe, aI g 13 (lfT mBO 13))] 1 0 (c_X8_bit l g h0 xa xb xc xd xe xf xg xm xv xw xq xr xh xo xp 0 1 vw vg b2_70 1 ve vf vu vl vr va vt vm vd vx f2_71 (iI 1) (by first | omega | decide | assumption) (by first | omega | decide | assumption)) dX8_encode_199 k1110 k1112 k23 k57 k1113 ykX8_bit rfl rfl rfl rfl rfl rfl rfl rfl (nl rfl) ⟨nl rfl, nl rfl⟩ ⟨(nl rfl), (nl rfl)⟩ rfl (fun v9 w9 hu => ?_)
          obtain ⟨f2_74, rfl, rfl⟩ := hu
          refine v_is (wn := [(xv, aZ g 72000 fg), (xa, aI g 64 (lfT mW 64)), (xb, aI g 64 (lfT mB 64)), (xc, aI g 27 (lfT mWM 27)), (xd, aI g 27 (lfT mBM 27)), (xe, aI g 13 (lfT mBO 13)), (h0, ob 8 [.ref xa, .ref xb, .ref xc, .ref xd, .ref xe, .ref xf, .ref xg, .int (iI 0), .int (iI 1), .int (iI vw), .ref xm, .ref xv, .int (iI vg), .ref xw, .int (iI (b2_70 + 1)), .int (iI 1), .ref xq, .int (iI ve), .int (iI vf), .int (iI vu), .int (iI vl), .ref xr, .ref xh, .ref xo, .ref xp, .int (iI vr), .int (iI va), .int (iI vt), .int (iI vm), .int (iI vd), .int (iI vx)]), (xw, aI g 72000 f2_74)]) (cn := 0) (sn := 0) (sn2 := []) rfl rfl rfl rfl ?_
          refine v_iinc fx 0 (5) [(1, .int (iI 5)), (0, .ref h0)] dX8_encode_202 rfl (by omega) (by decide) rfl rfl ?_
          refine v_goto fx 167 dX8_encode_205 (by decide) ?_
          refine v_iload_n fx 0 dX8_encode_167 rfl rfl ?_
          refine v_aload_n fx 1 dX8_encode_168 rfl rfl ?_
          refine v_get fx 6 8 inX8 k1004 dX8_encode_169 rfl rfl (by decide) rfl rfl rfl ?_
          refine v_iconst fx dX8_encode_172 rfl ?_
          refine v_icmp_ge fx 181 dX8_encode_173 (by decide) rfl (by omega) (by omega) (fun h0 => absurd h0 (by omega)) (fun h_75 => ?_)
          refine v_bipush fx dX8_encode_176 (by decide +kernel) rfl ?_
          refine v_goto fx 182 dX8_encode_178 (by decide) ?_
          refine v_icmp_ge fx 208 dX8_encode_182 (by decide) rfl (by omega) (by omega) (fun h0 => absurd h0 (by omega)) (fun h_76 => ?_)
          refine v_aload_n fx 1 dX8_encode_185 rfl rfl ?_
          refine v_callV (As := []) (rest := []) fx [6, 7] [0, 1, 2, 3, 4, 5] [(h0, ob 8 [.ref xa, .ref xb, .ref xc, .ref xd, .ref xe, .ref xf, .ref xg, .int (iI 0), .int (iI 1), .int (iI vw), .ref xm, .ref xv, .int (iI vg), .ref xw, .int (iI (b2_70 + 1)), .int (iI 1), .ref xq, .int (iI ve), .int (iI vf), .int (iI vu), .int (iI vl), .ref xr, .ref xh, .ref xo, .ref xp, .int (iI vr), .int (iI va), .int (iI vt), .int (iI vm), .int (iI vd), .int (iI vx)]), (xw, aI g 72000 f2_74)] [(xv, aZ g 72000 fg), (xa, aI g 64 (lfT mW 64)), (xb, aI g 64 (lfT mB 64)), (xc, aI g 27 (lfT mWM 27)), (xd, aI g 27 (lfT mBM 27)), (xe, aI g 13 (lfT mBO 13))] 0 0 (c_X8_mark l g h0 xa xb xc xd xe xf xg xm xv xw xq xr xh xo xp 0 1 vw vg (b2_70 + 1) 1 ve vf vu vl vr va vt vm vd vx f2_74 (by first | omega | decide | assumption) (by first | omega | decide | assumption)) dX8_encode_186 k1102 k1104 k21 k57 k1105 ykX8_mark rfl rfl rfl rfl rfl rfl rfl rfl (nl rfl) ⟨nl rfl, nl rfl⟩ ⟨(nl rfl), (nl rfl)⟩ rfl (fun v9 w9 hu => ?_)
          obtain ⟨b2_77, f2_78, rfl, rfl, u_79⟩ := hu
          refine v_is (wn := [(xv, aZ g 72000 fg), (xa, aI g 64 (lfT mW 64)), (xb, aI g 64 (lfT mB 64)), (xc, aI g 27 (lfT mWM 27)), (xd, aI g 27 (lfT mBM 27)), (xe, aI g 13 (lfT mBO 13)), (h0, ob 8 [.ref xa, .ref xb, .ref xc, .ref xd, .ref xe, .ref xf, .ref xg, .int (iI 0), .int (iI 1), .int (iI vw), .ref xm, .ref xv, .int (iI vg), .ref xw, .int (iI b2_77), .int (iI 1), .ref xq, .int (iI ve), .int (iI vf), .int (iI vu), .int (iI vl), .ref xr, .ref xh, .ref xo, .ref xp, .int (iI vr), .int (iI va), .int (iI vt), .int (iI vm), .int (iI vd), .int (iI vx)]), (xw, aI g 72000 f2_78)]) (cn := 0) (sn := 0) (sn2 := []) rfl rfl rfl rfl ?_
          refine v_aload_n fx 1 dX8_encode_189 rfl rfl ?_
          refine v_get fx 6 8 inX8 k1004 dX8_encode_190 rfl rfl (by decide) rfl rfl rfl ?_
          refine v_iconst fx dX8_encode_193 rfl ?_
          refine v_icmp_ne fx 202 dX8_encode_194 (by decide) rfl (by omega) (by omega) (fun h0 => absurd h0 (by omega)) (fun h_80 => ?_)
          refine v_aload_n fx 1 dX8_encode_197 rfl rfl ?_
          refine v_iconst fx dX8_encode_198 rfl ?_
          refine v_callV (As := [.int (iI 1)]) (rest := []) fx [6, 7] [0, 1, 2, 3, 4, 5] [(h0, ob 8 [.ref xa, .ref xb, .ref xc, .ref xd, .ref xe, .ref xf, .ref xg, .int (iI 0), .int (iI 1), .int (iI vw), .ref xm, .ref xv, .int (iI vg), .ref xw, .int (iI b2_77), .int (iI 1), .ref xq, .int (iI ve), .int (iI vf), .int (iI vu), .int (iI vl), .ref xr, .ref xh, .ref xo, .ref xp, .int (iI vr), .int (iI va), .int (iI vt), .int (iI vm), .int (iI vd), .int (iI vx)]), (xw, aI g 72000 f2_78)] [(xv, aZ g 72000 fg), (xa, aI g 64 (lfT mW 64)), (xb, aI g 64 (lfT mB 64)), (xc, aI g 27 (lfT mWM 27)), (xd, aI g 27 (lfT mBM 27)), (xe, aI g 13 (lfT mBO 13))] 1 0 (c_X8_bit l g h0 xa xb xc xd xe xf xg xm xv xw xq xr xh xo xp 0 1 vw vg b2_77 1 ve vf vu vl vr va vt vm vd vx f2_78 (iI 1) (by first | omega | decide | assumption) (by first | omega | decide | assumption)) dX8_encode_199 k1110 k1112 k23 k57 k1113 ykX8_bit rfl rfl rfl rfl rfl rfl rfl rfl (nl rfl) ⟨nl rfl, nl rfl⟩ ⟨(nl rfl), (nl rfl)⟩ rfl (fun v9 w9 hu => ?_)
          obtain ⟨f2_81, rfl, rfl⟩ := hu
          refine v_is (wn := [(xv, aZ g 72000 fg), (xa, aI g 64 (lfT mW 64)), (xb, aI g 64 (lfT mB 64)), (xc, aI g 27 (lfT mWM 27)), (xd, aI g 27 (lfT mBM 27)), (xe, aI g 13 (lfT mBO 13)), (h0, ob 8 [.ref xa, .ref xb, .ref xc, .ref xd, .ref xe, .ref xf, .ref xg, .int (iI 0), .int (iI 1), .int (iI vw), .ref xm, .ref xv, .int (iI vg), .ref xw, .int (iI (b2_77 + 1)), .int (iI 1), .ref xq, .int (iI ve), .int (iI vf), .int (iI vu), .int (iI vl), .ref xr, .ref xh, .ref xo, .ref xp, .int (iI vr), .int (iI va), .int (iI vt), .int (iI vm), .int (iI vd), .int (iI vx)]), (xw, aI g 72000 f2_81)]) (cn := 0) (sn := 0) (sn2 := []) rfl rfl rfl rfl ?_
          refine v_iinc fx 0 (6) [(1, .int (iI 6)), (0, .ref h0)] dX8_encode_202 rfl (by omega) (by decide) rfl rfl ?_
          refine v_goto fx 167 dX8_encode_205 (by decide) ?_
          refine v_iload_n fx 0 dX8_encode_167 rfl rfl ?_
          refine v_aload_n fx 1 dX8_encode_168 rfl rfl ?_
          refine v_get fx 6 8 inX8 k1004 dX8_encode_169 rfl rfl (by decide) rfl rfl rfl ?_
          refine v_iconst fx dX8_encode_172 rfl ?_
          refine v_icmp_ge fx 181 dX8_encode_173 (by decide) rfl (by omega) (by omega) (fun h0 => absurd h0 (by omega)) (fun h_82 => ?_)
          refine v_bipush fx dX8_encode_176 (by decide +kernel) rfl ?_
          refine v_goto fx 182 dX8_encode_178 (by decide) ?_
          refine v_icmp_ge fx 208 dX8_encode_182 (by decide) rfl (by omega) (by omega) (fun h_83 => ?_) (fun h0 => absurd h0 (by omega))
          refine v_aload_n fx 1 dX8_encode_208 rfl rfl ?_
          refine v_get fx 6 14 inX8 k1010 dX8_encode_209 rfl rfl (by decide) rfl rfl rfl ?_
          refine v_bipush fx dX8_encode_212 (by decide +kernel) rfl ?_
          refine v_iadd fx ((b2_77 + 1) + 7) dX8_encode_214 (by rfl) rfl ?_
          refine v_bipush fx dX8_encode_215 (by decide +kernel) rfl ?_
          refine v_idiv fx (iI (((b2_77 + 1) + 7) / 8)) dX8_encode_217 (by decide) (iI_div (by omega) 8 (by decide) (by decide)) rfl ?_
          exact v_iret fx [(h0, ob 8 [.ref xa, .ref xb, .ref xc, .ref xd, .ref xe, .ref xf, .ref xg, .int (iI 0), .int (iI 1), .int (iI vw), .ref xm, .ref xv, .int (iI vg), .ref xw, .int (iI (b2_77 + 1)), .int (iI 1), .ref xq, .int (iI ve), .int (iI vf), .int (iI vu), .int (iI vl), .ref xr, .ref xh, .ref xo, .ref xp, .int (iI vr), .int (iI va), .int (iI vt), .int (iI vm), .int (iI vd), .int (iI vx)]), (xw, aI g 72000 f2_81), (xv, aZ g 72000 fg), (xa, aI g 64 (lfT mW 64)), (xb, aI g 64 (lfT mB 64)), (xc, aI g 27 (lfT mWM 27)), (xd, aI g 27 (lfT mBM 27)), (xe, aI g 13 (lfT mBO 13))] [6, 7, 0, 1, 2, 3, 4, 5] hr dX8_encode_218 rfl rfl (nl rfl) (nl rfl) ⟨(((b2_77 + 1) + 7) / 8), (b2_77 + 1), f2_81, rfl, rfl, (by first | omega | rfl | assumption), (by first | omega | rfl | assumption)⟩
        ·
          refine v_iconst fx dX8_encode_165 rfl ?_
          refine v_istore_n fx [(1, .int (iI 0)), (0, .ref h0)] dX8_encode_166 (by decide) rfl rfl ?_
          refine v_iload_n fx 0 dX8_encode_167 rfl rfl ?_
          refine v_aload_n fx 1 dX8_encode_168 rfl rfl ?_
          refine v_get fx 0 8 inX8 k1004 dX8_encode_169 rfl rfl (by decide) rfl rfl rfl ?_
          refine v_iconst fx dX8_encode_172 rfl ?_
          refine v_icmp_ge fx 181 dX8_encode_173 (by decide) rfl (by omega) (by omega) (fun h_84 => ?_) (fun h0 => absurd h0 (by omega))
          refine v_iconst fx dX8_encode_181 rfl ?_
          refine v_icmp_ge fx 208 dX8_encode_182 (by decide) rfl (by omega) (by omega) (fun h0 => absurd h0 (by omega)) (fun h_85 => ?_)
          refine v_aload_n fx 1 dX8_encode_185 rfl rfl ?_
          refine v_callV (As := []) (rest := []) fx [0, 1] [2, 3, 4, 5, 6, 7] [(h0, ob 8 [.ref xa, .ref xb, .ref xc, .ref xd, .ref xe, .ref xf, .ref xg, .int (iI 0), .int (iI 2), .int (iI vw), .ref xm, .ref xv, .int (iI vg), .ref xw, .int (iI b1), .int (iI 1), .ref xq, .int (iI ve), .int (iI vf), .int (iI vu), .int (iI vl), .ref xr, .ref xh, .ref xo, .ref xp, .int (iI vr), .int (iI va), .int (iI vt), .int (iI vm), .int (iI vd), .int (iI vx)]), (xw, aI g 72000 f1)] [(xv, aZ g 72000 fg), (xa, aI g 64 (lfT mW 64)), (xb, aI g 64 (lfT mB 64)), (xc, aI g 27 (lfT mWM 27)), (xd, aI g 27 (lfT mBM 27)), (xe, aI g 13 (lfT mBO 13))] 0 0 (c_X8_mark l g h0 xa xb xc xd xe xf xg xm xv xw xq xr xh xo xp 0 2 vw vg b1 1 ve vf vu vl vr va vt vm vd vx f1 (by first | omega | decide | assumption) (by first | omega | decide | assumption)) dX8_encode_186 k1102 k1104 k21 k57 k1105 ykX8_mark rfl rfl rfl rfl rfl rfl rfl rfl (nl rfl) ⟨nl rfl, nl rfl⟩ ⟨(nl rfl), (nl rfl)⟩ rfl (fun v9 w9 hu => ?_)
          obtain ⟨b2_86, f2_87, rfl, rfl, u_88⟩ := hu
          refine v_is (wn := [(xv, aZ g 72000 fg), (xa, aI g 64 (lfT mW 64)), (xb, aI g 64 (lfT mB 64)), (xc, aI g 27 (lfT mWM 27)), (xd, aI g 27 (lfT mBM 27)), (xe, aI g 13 (lfT mBO 13)), (h0, ob 8 [.ref xa, .ref xb, .ref xc, .ref xd, .ref xe, .ref xf, .ref xg, .int (iI 0), .int (iI 2), .int (iI vw), .ref xm, .ref xv, .int (iI vg), .ref xw, .int (iI b2_86), .int (iI 1), .ref xq, .int (iI ve), .int (iI vf), .int (iI vu), .int (iI vl), .ref xr, .ref xh, .ref xo, .ref xp, .int (iI vr), .int (iI va), .int (iI vt), .int (iI vm), .int (iI vd), .int (iI vx)]), (xw, aI g 72000 f2_87)]) (cn := 0) (sn := 0) (sn2 := []) rfl rfl rfl rfl ?_
          refine v_aload_n fx 1 dX8_encode_189 rfl rfl ?_
          refine v_get fx 6 8 inX8 k1004 dX8_encode_190 rfl rfl (by decide) rfl rfl rfl ?_
          refine v_iconst fx dX8_encode_193 rfl ?_
          refine v_icmp_ne fx 202 dX8_encode_194 (by decide) rfl (by omega) (by omega) (fun h_89 => ?_) (fun h0 => absurd h0 (by omega))
          refine v_iinc fx 0 (1) [(1, .int (iI 1)), (0, .ref h0)] dX8_encode_202 rfl (by omega) (by decide) rfl rfl ?_
          refine v_goto fx 167 dX8_encode_205 (by decide) ?_
          refine v_iload_n fx 0 dX8_encode_167 rfl rfl ?_
          refine v_aload_n fx 1 dX8_encode_168 rfl rfl ?_
          refine v_get fx 6 8 inX8 k1004 dX8_encode_169 rfl rfl (by decide) rfl rfl rfl ?_
          refine v_iconst fx dX8_encode_172 rfl ?_
          refine v_icmp_ge fx 181 dX8_encode_173 (by decide) rfl (by omega) (by omega) (fun h_90 => ?_) (fun h0 => absurd h0 (by omega))
          refine v_iconst fx dX8_encode_181 rfl ?_
          refine v_icmp_ge fx 208 dX8_encode_182 (by decide) rfl (by omega) (by omega) (fun h0 => absurd h0 (by omega)) (fun h_91 => ?_)
          refine v_aload_n fx 1 dX8_encode_185 rfl rfl ?_
          refine v_callV (As := []) (rest := []) fx [6, 7] [0, 1, 2, 3, 4, 5] [(h0, ob 8 [.ref xa, .ref xb, .ref xc, .ref xd, .ref xe, .ref xf, .ref xg, .int (iI 0), .int (iI 2), .int (iI vw), .ref xm, .ref xv, .int (iI vg), .ref xw, .int (iI b2_86), .int (iI 1), .ref xq, .int (iI ve), .int (iI vf), .int (iI vu), .int (iI vl), .ref xr, .ref xh, .ref xo, .ref xp, .int (iI vr), .int (iI va), .int (iI vt), .int (iI vm), .int (iI vd), .int (iI vx)]), (xw, aI g 72000 f2_87)] [(xv, aZ g 72000 fg), (xa, aI g 64 (lfT mW 64)), (xb, aI g 64 (lfT mB 64)), (xc, aI g 27 (lfT mWM 27)), (xd, aI g 27 (lfT mBM 27)), (xe, aI g 13 (lfT mBO 13))] 0 0 (c_X8_mark l g h0 xa xb xc xd xe xf xg xm xv xw xq xr xh xo xp 0 2 vw vg b2_86 1 ve vf vu vl vr va vt vm vd vx f2_87 (by first | omega | decide | assumption) (by first | omega | decide | assumption)) dX8_encode_186 k1102 k1104 k21 k57 k1105 ykX8_mark rfl rfl rfl rfl rfl rfl rfl rfl (nl rfl) ⟨nl rfl, nl rfl⟩ ⟨(nl rfl), (nl rfl)⟩ rfl (fun v9 w9 hu => ?_)
          obtain ⟨b2_92, f2_93, rfl, rfl, u_94⟩ := hu
          refine v_is (wn := [(xv, aZ g 72000 fg), (xa, aI g 64 (lfT mW 64)), (xb, aI g 64 (lfT mB 64)), (xc, aI g 27 (lfT mWM 27)), (xd, aI g 27 (lfT mBM 27)), (xe, aI g 13 (lfT mBO 13)), (h0, ob 8 [.ref xa, .ref xb, .ref xc, .ref xd, .ref xe, .ref xf, .ref xg, .int (iI 0), .int (iI 2), .int (iI vw), .ref xm, .ref xv, .int (iI vg), .ref xw, .int (iI b2_92), .int (iI 1), .ref xq, .int (iI ve), .int (iI vf), .int (iI vu), .int (iI vl), .ref xr, .ref xh, .ref xo, .ref xp, .int (iI vr), .int (iI va), .int (iI vt), .int (iI vm), .int (iI vd), .int (iI vx)]), (xw, aI g 72000 f2_93)]) (cn := 0) (sn := 0) (sn2 := []) rfl rfl rfl rfl ?_
          refine v_aload_n fx 1 dX8_encode_189 rfl rfl ?_
          refine v_get fx 6 8 inX8 k1004 dX8_encode_190 rfl rfl (by decide) rfl rfl rfl ?_
          refine v_iconst fx dX8_encode_193 rfl ?_
          refine v_icmp_ne fx 202 dX8_encode_194 (by decide) rfl (by omega) (by omega) (fun h_95 => ?_) (fun h0 => absurd h0 (by omega))
          refine v_iinc fx 0 (2) [(1, .int (iI 2)), (0, .ref h0)] dX8_encode_202 rfl (by omega) (by decide) rfl rfl ?_
          refine v_goto fx 167 dX8_encode_205 (by decide) ?_
          refine v_iload_n fx 0 dX8_encode_167 rfl rfl ?_
          refine v_aload_n fx 1 dX8_encode_168 rfl rfl ?_
          refine v_get fx 6 8 inX8 k1004 dX8_encode_169 rfl rfl (by decide) rfl rfl rfl ?_
          refine v_iconst fx dX8_encode_172 rfl ?_
          refine v_icmp_ge fx 181 dX8_encode_173 (by decide) rfl (by omega) (by omega) (fun h_96 => ?_) (fun h0 => absurd h0 (by omega))
          refine v_iconst fx dX8_encode_181 rfl ?_
          refine v_icmp_ge fx 208 dX8_encode_182 (by decide) rfl (by omega) (by omega) (fun h_97 => ?_) (fun h0 => absurd h0 (by omega))
          refine v_aload_n fx 1 dX8_encode_208 rfl rfl ?_
          refine v_get fx 6 14 inX8 k1010 dX8_encode_209 rfl rfl (by decide) rfl rfl rfl ?_
          refine v_bipush fx dX8_encode_212 (by decide +kernel) rfl ?_
          refine v_iadd fx (b2_92 + 7) dX8_encode_214 (by rfl) rfl ?_
          refine v_bipush fx dX8_encode_215 (by decide +kernel) rfl ?_
          refine v_idiv fx (iI ((b2_92 + 7) / 8)) dX8_encode_217 (by decide) (iI_div (by omega) 8 (by decide) (by decide)) rfl ?_
          exact v_iret fx [(h0, ob 8 [.ref xa, .ref xb, .ref xc, .ref xd, .ref xe, .ref xf, .ref xg, .int (iI 0), .int (iI 2), .int (iI vw), .ref xm, .ref xv, .int (iI vg), .ref xw, .int (iI b2_92), .int (iI 1), .ref xq, .int (iI ve), .int (iI vf), .int (iI vu), .int (iI vl), .ref xr, .ref xh, .ref xo, .ref xp, .int (iI vr), .int (iI va), .int (iI vt), .int (iI vm), .int (iI vd), .int (iI vx)]), (xw, aI g 72000 f2_93), (xv, aZ g 72000 fg), (xa, aI g 64 (lfT mW 64)), (xb, aI g 64 (lfT mB 64)), (xc, aI g 27 (lfT mWM 27)), (xd, aI g 27 (lfT mBM 27)), (xe, aI g 13 (lfT mBO 13))] [6, 7, 0, 1, 2, 3, 4, 5] hr dX8_encode_218 rfl rfl (nl rfl) (nl rfl) ⟨((b2_92 + 7) / 8), b2_92, f2_93, rfl, rfl, (by first | omega | rfl | assumption), (by first | omega | rfl | assumption)⟩
      ·
        rcases (show vk = 0 ∨ vk = 1 ∨ vk = 2 by omega) with rfl | rfl | rfl
        ·
          refine v_aload_n fx 0 dX8_encode_25 rfl rfl ?_
          refine v_get fx 0 8 inX8 k1004 dX8_encode_26 rfl rfl (by decide) rfl rfl rfl ?_
          refine v_if_eq fx 46 dX8_encode_29 (by decide) rfl (by omega) (fun h_98 => ?_) (fun h0 => absurd h0 (by omega))
          refine v_iconst fx dX8_encode_46 rfl ?_
          refine v_goto fx 51 dX8_encode_47 (by decide) ?_
          refine v_istore_n fx [(2, .int (iI 1)), (0, .ref h0), (1, .int (iI y))] dX8_encode_51 (by decide) rfl rfl ?_
          refine v_aload_n fx 1 dX8_encode_52 rfl rfl ?_
          refine v_get fx 0 8 inX8 k1004 dX8_encode_53 rfl rfl (by decide) rfl rfl rfl ?_
          refine v_iconst fx dX8_encode_56 rfl ?_
          refine v_icmp_ge fx 64 dX8_encode_57 (by decide) rfl (by omega) (by omega) (fun h0 => absurd h0 (by omega)) (fun h_99 => ?_)
          refine v_aload_n fx 1 dX8_encode_60 rfl rfl ?_
          refine v_callV (As := []) (rest := []) fx [0, 1] [2, 3, 4, 5, 6, 7] [(h0, ob 8 [.ref xa, .ref xb, .ref xc, .ref xd, .ref xe, .ref xf, .ref xg, .int (iI 0), .int (iI 0), .int (iI vw), .ref xm, .ref xv, .int (iI vg), .ref xw, .int (iI b1), .int (iI 1), .ref xq, .int (iI ve), .int (iI vf), .int (iI vu), .int (iI vl), .ref xr, .ref xh, .ref xo, .ref xp, .int (iI vr), .int (iI va), .int (iI vt), .int (iI vm), .int (iI vd), .int (iI vx)]), (xw, aI g 72000 f1)] [(xv, aZ g 72000 fg), (xa, aI g 64 (lfT mW 64)), (xb, aI g 64 (lfT mB 64)), (xc, aI g 27 (lfT mWM 27)), (xd, aI g 27 (lfT mBM 27)), (xe, aI g 13 (lfT mBO 13))] 0 0 (c_X8_mark l g h0 xa xb xc xd xe xf xg xm xv xw xq xr xh xo xp 0 0 vw vg b1 1 ve vf vu vl vr va vt vm vd vx f1 (by first | omega | decide | assumption) (by first | omega | decide | assumption)) dX8_encode_61 k1102 k1104 k21 k57 k1105 ykX8_mark rfl rfl rfl rfl rfl rfl rfl rfl (nl rfl) ⟨nl rfl, nl rfl⟩ ⟨(nl rfl), (nl rfl)⟩ rfl (fun v9 w9 hu => ?_)
          obtain ⟨b2_100, f2_101, rfl, rfl, u_102⟩ := hu
          refine v_is (wn := [(xv, aZ g 72000 fg), (xa, aI g 64 (lfT mW 64)), (xb, aI g 64 (lfT mB 64)), (xc, aI g 27 (lfT mWM 27)), (xd, aI g 27 (lfT mBM 27)), (xe, aI g 13 (lfT mBO 13)), (h0, ob 8 [.ref xa, .ref xb, .ref xc, .ref xd, .ref xe, .ref xf, .ref xg, .int (iI 0), .int (iI 0), .int (iI vw), .ref xm, .ref xv, .int (iI vg), .ref xw, .int (iI b2_100), .int (iI 1), .ref xq, .int (iI ve), .int (iI vf), .int (iI vu), .int (iI vl), .ref xr, .ref xh, .ref xo, .ref xp, .int (iI vr), .int (iI va), .int (iI vt), .int (iI vm), .int (iI vd), .int (iI vx)]), (xw, aI g 72000 f2_101)]) (cn := 0) (sn := 0) (sn2 := []) rfl rfl rfl rfl ?_
          refine v_aload_n fx 1 dX8_encode_64 rfl rfl ?_
          refine v_get fx 6 8 inX8 k1004 dX8_encode_65 rfl rfl (by decide) rfl rfl rfl ?_
          refine v_iconst fx dX8_encode_68 rfl ?_
          refine v_icmp_ne fx 85 dX8_encode_69 (by decide) rfl (by omega) (by omega) (fun h_103 => ?_) (fun h0 => absurd h0 (by omega))
          refine v_aload_n fx 1 dX8_encode_85 rfl rfl ?_
          refine v_get fx 6 14 inX8 k1010 dX8_encode_86 rfl rfl (by decide) rfl rfl rfl ?_
          refine v_istore_n fx [(3, .int (iI b2_100)), (2, .int (iI 1)), (0, .ref h0), (1, .int (iI y))] dX8_encode_89 (by decide) rfl rfl ?_
          refine v_iload_n fx 1 dX8_encode_90 rfl rfl ?_
          refine v_if_eq fx 106 dX8_encode_91 (by decide) rfl (by omega) (fun h0 => absurd h0 (by omega)) (fun h_104 => ?_)
          refine v_aload_n fx 2 dX8_encode_94 rfl rfl ?_
          refine v_sipush fx dX8_encode_95 (by decide +kernel) rfl ?_
          refine v_iload_n fx 3 dX8_encode_98 rfl rfl ?_
          refine v_imul fx (3000 * y) dX8_encode_99 (by rfl) rfl ?_
          refine v_callV (As := [.int (iI (3000 * y))]) (rest := []) fx [6, 7, 0, 1, 2, 3, 4, 5] [] [(h0, ob 8 [.ref xa, .ref xb, .ref xc, .ref xd, .ref xe, .ref xf, .ref xg, .int (iI 0), .int (iI 0), .int (iI vw), .ref xm, .ref xv, .int (iI vg), .ref xw, .int (iI b2_100), .int (iI 1), .ref xq, .int (iI ve), .int (iI vf), .int (iI vu), .int (iI vl), .ref xr, .ref xh, .ref xo, .ref xp, .int (iI vr), .int (iI va), .int (iI vt), .int (iI vm), .int (iI vd), .int (iI vx)]), (xw, aI g 72000 f2_101), (xv, aZ g 72000 fg), (xa, aI g 64 (lfT mW 64)), (xb, aI g 64 (lfT mB 64)), (xc, aI g 27 (lfT mWM 27)), (xd, aI g 27 (lfT mBM 27)), (xe, aI g 13 (lfT mBO 13))] [] 1 0 (c_X8_oneDimension l g h0 xa xb xc xd xe xf xg xm xv xw xq xr xh xo xp 0 0 vw vg b2_100 1 ve vf vu vl vr va vt vm vd vx f2_101 fg (3000 * y) (by first | omega | decide | assumption) (by first | omega | decide | assumption) (by first | omega | decide | assumption) (by first | omega | decide | assumption) (by first | omega | decide | assumption)) dX8_encode_100 k1114 k1116 k24 k57 k1117 ykX8_oneDimension rfl rfl rfl rfl rfl rfl rfl rfl (nl rfl) ⟨nl rfl, nl rfl⟩ ⟨(nl rfl), (nl rfl)⟩ rfl (fun v9 w9 hu => ?_)
          obtain ⟨b2_105, f2_106, rfl, rfl, u_107⟩ := hu
          refine v_is (wn := [(h0, ob 8 [.ref xa, .ref xb, .ref xc, .ref xd, .ref xe, .ref xf, .ref xg, .int (iI 0), .int (iI 0), .int (iI vw), .ref xm, .ref xv, .int (iI vg), .ref xw, .int (iI b2_105), .int (iI 1), .ref xq, .int (iI ve), .int (iI vf), .int (iI vu), .int (iI vl), .ref xr, .ref xh, .ref xo, .ref xp, .int (iI vr), .int (iI va), .int (iI vt), .int (iI vm), .int (iI vd), .int (iI vx)]), (xw, aI g 72000 f2_106), (xv, aZ g 72000 fg), (xa, aI g 64 (lfT mW 64)), (xb, aI g 64 (lfT mB 64)), (xc, aI g 27 (lfT mWM 27)), (xd, aI g 27 (lfT mBM 27)), (xe, aI g 13 (lfT mBO 13))]) (cn := 0) (sn := 0) (sn2 := []) rfl rfl rfl rfl ?_
          refine v_goto fx 130 dX8_encode_103 (by decide) ?_
          have L130 : ∀ (N : Nat) (b3 : Int) (f3 : Nat → Int32), (0 ≤ b3 ∧ b3 ≤ 21060 * (y + 1)) → ((b2_100 + vf - b3).toNat) < N → V p9 l e9 (rmD 5 0 0) s9 m9 ag9 bl9 mt9 c9 4 g A9 (MQ bl9 (cQ g (po_c_X8_encode g h0 xa xb xc xd xe xf xg xm xv xw xq xr xh xo xp vc 0 vw vg vb vi ve vf vu vl vr va vt vm vd vx f fg) A9) ag9 s9 0 0 A9) [(h0, ob 8 [.ref xa, .ref xb, .ref xc, .ref xd, .ref xe, .ref xf, .ref xg, .int (iI 0), .int (iI 0), .int (iI vw), .ref xm, .ref xv, .int (iI vg), .ref xw, .int (iI b3), .int (iI 1), .ref xq, .int (iI ve), .int (iI vf), .int (iI vu), .int (iI vl), .ref xr, .ref xh, .ref xo, .ref xp, .int (iI vr), .int (iI va), .int (iI vt), .int (iI vm), .int (iI vd), .int (iI vx)]), (xw, aI g 72000 f3), (xv, aZ g 72000 fg), (xa, aI g 64 (lfT mW 64)), (xb, aI g 64 (lfT mB 64)), (xc, aI g 27 (lfT mWM 27)), (xd, aI g 27 (lfT mBM 27)), (xe, aI g 13 (lfT mBO 13))] 0 0 [(0, .ref h0), (1, .int (iI y)), (3, .int (iI b2_100))] 130 [] := by
            intro N
            induction N with
            | zero => intro b3 f3 hi130_0 hN; exact absurd hN (Nat.not_lt_zero _)
            | succ N ihL130 =>
              intro b3 f3 hi130_0 hN130
              refine v_aload_n fx 0 dX8_encode_130 rfl rfl ?_
              refine v_get fx 0 8 inX8 k1004 dX8_encode_131 rfl rfl (by decide) rfl rfl rfl ?_
              refine v_iconst fx dX8_encode_134 rfl ?_
              refine v_icmp_ge fx 159 dX8_encode_135 (by decide) rfl (by omega) (by omega) (fun h0 => absurd h0 (by omega)) (fun h_108 => ?_)
              refine v_aload_n fx 0 dX8_encode_138 rfl rfl ?_
              refine v_get fx 0 14 inX8 k1010 dX8_encode_139 rfl rfl (by decide) rfl rfl rfl ?_
              refine v_iload_n fx 2 dX8_encode_142 rfl rfl ?_
              refine v_isub fx (b3 - b2_100) dX8_encode_143 (by rfl) rfl ?_
              refine v_aload_n fx 0 dX8_encode_144 rfl rfl ?_
              refine v_get fx 0 18 inX8 k1014 dX8_encode_145 rfl rfl (by decide) rfl rfl rfl ?_
              refine v_icmp_ge fx 159 dX8_encode_148 (by decide) rfl (by omega) (by omega) (fun h_109 => ?_) (fun h_109 => ?_)
              ·
                refine v_iinc fx 1 (y + 1) [(1, .int (iI (y + 1))), (0, .ref h0), (3, .int (iI b2_100))] dX8_encode_159 rfl (by omega) (by decide) rfl rfl ?_
                refine v_goto fx 17 dX8_encode_162 (by decide) ?_
                refine v_lv [1, 0] [(0, .ref h0), (1, .int (iI (y + 1)))] rfl ?_
                exact ihL17 (y + 1) b3 f3 (by omega) (by omega) (by omega)
              ·
                refine v_aload_n fx 0 dX8_encode_151 rfl rfl ?_
                refine v_iconst fx dX8_encode_152 rfl ?_
                refine v_callV (As := [.int (iI 0)]) (rest := []) fx [0, 1] [2, 3, 4, 5, 6, 7] [(h0, ob 8 [.ref xa, .ref xb, .ref xc, .ref xd, .ref xe, .ref xf, .ref xg, .int (iI 0), .int (iI 0), .int (iI vw), .ref xm, .ref xv, .int (iI vg), .ref xw, .int (iI b3), .int (iI 1), .ref xq, .int (iI ve), .int (iI vf), .int (iI vu), .int (iI vl), .ref xr, .ref xh, .ref xo, .ref xp, .int (iI vr), .int (iI va), .int (iI vt), .int (iI vm), .int (iI vd), .int (iI vx)]), (xw, aI g 72000 f3)] [(xv, aZ g 72000 fg), (xa, aI g 64 (lfT mW 64)), (xb, aI g 64 (lfT mB 64)), (xc, aI g 27 (lfT mWM 27)), (xd, aI g 27 (lfT mBM 27)), (xe, aI g 13 (lfT mBO 13))] 1 0 (c_X8_bit l g h0 xa xb xc xd xe xf xg xm xv xw xq xr xh xo xp 0 0 vw vg b3 1 ve vf vu vl vr va vt vm vd vx f3 (iI 0) (by first | omega | decide | assumption) (by first | omega | decide | assumption)) dX8_encode_153 k1110 k1112 k23 k57 k1113 ykX8_bit rfl rfl rfl rfl rfl rfl rfl rfl (nl rfl) ⟨nl rfl, nl rfl⟩ ⟨(nl rfl), (nl rfl)⟩ rfl (fun v9 w9 hu => ?_)
                obtain ⟨f2_110, rfl, rfl⟩ := hu
                refine v_is (wn := [(xv, aZ g 72000 fg), (xa, aI g 64 (lfT mW 64)), (xb, aI g 64 (lfT mB 64)), (xc, aI g 27 (lfT mWM 27)), (xd, aI g 27 (lfT mBM 27)), (xe, aI g 13 (lfT mBO 13)), (h0, ob 8 [.ref xa, .ref xb, .ref xc, .ref xd, .ref xe, .ref xf, .ref xg, .int (iI 0), .int (iI 0), .int (iI vw), .ref xm, .ref xv, .int (iI vg), .ref xw, .int (iI (b3 + 1)), .int (iI 1), .ref xq, .int (iI ve), .int (iI vf), .int (iI vu), .int (iI vl), .ref xr, .ref xh, .ref xo, .ref xp, .int (iI vr), .int (iI va), .int (iI vt), .int (iI vm), .int (iI vd), .int (iI vx)]), (xw, aI g 72000 f2_110)]) (cn := 0) (sn := 0) (sn2 := []) rfl rfl rfl rfl ?_
                refine v_goto fx 130 dX8_encode_156 (by decide) ?_
                refine v_ws [6, 7, 0, 1, 2, 3, 4, 5] [(h0, ob 8 [.ref xa, .ref xb, .ref xc, .ref xd, .ref xe, .ref xf, .ref xg, .int (iI 0), .int (iI 0), .int (iI vw), .ref xm, .ref xv, .int (iI vg), .ref xw, .int (iI (b3 + 1)), .int (iI 1), .ref xq, .int (iI ve), .int (iI vf), .int (iI vu), .int (iI vl), .ref xr, .ref xh, .ref xo, .ref xp, .int (iI vr), .int (iI va), .int (iI vt), .int (iI vm), .int (iI vd), .int (iI vx)]), (xw, aI g 72000 f2_110), (xv, aZ g 72000 fg), (xa, aI g 64 (lfT mW 64)), (xb, aI g 64 (lfT mB 64)), (xc, aI g 27 (lfT mWM 27)), (xd, aI g 27 (lfT mBM 27)), (xe, aI g 13 (lfT mBO 13))] rfl rfl ?_
                exact ihL130 (b3 + 1) f2_110 (by omega) (by omega)
          refine v_lv [2, 3, 0] [(0, .ref h0), (1, .int (iI y)), (3, .int (iI b2_100))] rfl ?_
          exact L130 _ b2_105 f2_106 (by omega) (Nat.lt_succ_self _)
        ·
          refine v_aload_n fx 0 dX8_encode_25 rfl rfl ?_
          refine v_get fx 0 8 inX8 k1004 dX8_encode_26 rfl rfl (by decide) rfl rfl rfl ?_
          refine v_if_eq fx 46 dX8_encode_29 (by decide) rfl (by omega) (fun h0 => absurd h0 (by omega)) (fun h_111 => ?_)
          refine v_aload_n fx 0 dX8_encode_32 rfl rfl ?_
          refine v_get fx 0 8 inX8 k1004 dX8_encode_33 rfl rfl (by decide) rfl rfl rfl ?_
          refine v_iconst fx dX8_encode_36 rfl ?_
          refine v_icmp_ne fx 50 dX8_encode_37 (by decide) rfl (by omega) (by omega) (fun h0 => absurd h0 (by omega)) (fun h_112 => ?_)
          refine v_iload_n fx 1 dX8_encode_40 rfl rfl ?_
          refine v_iconst fx dX8_encode_41 rfl ?_
          refine v_irem fx (iI (y % 4)) dX8_encode_42 (by decide) (iI_rem (by omega) 4 (by decide) (by decide)) rfl ?_
          refine v_if_ne fx 50 dX8_encode_43 (by decide) rfl (by omega) (fun h_113 => ?_) (fun h_113 => ?_)
          ·
            refine v_iconst fx dX8_encode_50 rfl ?_
            refine v_istore_n fx [(2, .int (iI 0)), (0, .ref h0), (1, .int (iI y))] dX8_encode_51 (by decide) rfl rfl ?_
            refine v_aload_n fx 1 dX8_encode_52 rfl rfl ?_
            refine v_get fx 0 8 inX8 k1004 dX8_encode_53 rfl rfl (by decide) rfl rfl rfl ?_
            refine v_iconst fx dX8_encode_56 rfl ?_
            refine v_icmp_ge fx 64 dX8_encode_57 (by decide) rfl (by omega) (by omega) (fun h0 => absurd h0 (by omega)) (fun h_114 => ?_)
            refine v_aload_n fx 1 dX8_encode_60 rfl rfl ?_
            refine v_callV (As := []) (rest := []) fx [0, 1] [2, 3, 4, 5, 6, 7] [(h0, ob 8 [.ref xa, .ref xb, .ref xc, .ref xd, .ref xe, .ref xf, .ref xg, .int (iI 0), .int (iI 1), .int (iI vw), .ref xm, .ref xv, .int (iI vg), .ref xw, .int (iI b1), .int (iI 1), .ref xq, .int (iI ve), .int (iI vf), .int (iI vu), .int (iI vl), .ref xr, .ref xh, .ref xo, .ref xp, .int (iI vr), .int (iI va), .int (iI vt), .int (iI vm), .int (iI vd), .int (iI vx)]), (xw, aI g 72000 f1)] [(xv, aZ g 72000 fg), (xa, aI g 64 (lfT mW 64)), (xb, aI g 64 (lfT mB 64)), (xc, aI g 27 (lfT mWM 27)), (xd, aI g 27 (lfT mBM 27)), (xe, aI g 13 (lfT mBO 13))] 0 0 (c_X8_mark l g h0 xa xb xc xd xe xf xg xm xv xw xq xr xh xo xp 0 1 vw vg b1 1 ve vf vu vl vr va vt vm vd vx f1 (by first | omega | decide | assumption) (by first | omega | decide | assumption)) dX8_encode_61 k1102 k1104 k21 k57 k1105 ykX8_mark rfl rfl rfl rfl rfl rfl rfl rfl (nl rfl) ⟨nl rfl, nl rfl⟩ ⟨(nl rfl), (nl rfl)⟩ rfl (fun v9 w9 hu => ?_)
            obtain ⟨b2_115, f2_116, rfl, rfl, u_117⟩ := hu
            refine v_is (wn := [(xv, aZ g 72000 fg), (xa, aI g 64 (lfT mW 64)), (xb, aI g 64 (lfT mB 64)), (xc, aI g 27 (lfT mWM 27)), (xd, aI g 27 (lfT mBM 27)), (xe, aI g 13 (lfT mBO 13)), (h0, ob 8 [.ref xa, .ref xb, .ref xc, .ref xd, .ref xe, .ref xf, .ref xg, .int (iI 0), .int (iI 1), .int (iI vw), .ref xm, .ref xv, .int (iI vg), .ref xw, .int (iI b2_115), .int (iI 1), .ref xq, .int (iI ve), .int (iI vf), .int (iI vu), .int (iI vl), .ref xr, .ref xh, .ref xo, .ref xp, .int (iI vr), .int (iI va), .int (iI vt), .int (iI vm), .int (iI vd), .int (iI vx)]), (xw, aI g 72000 f2_116)]) (cn := 0) (sn := 0) (sn2 := []) rfl rfl rfl rfl ?_
            refine v_aload_n fx 1 dX8_encode_64 rfl rfl ?_
            refine v_get fx 6 8 inX8 k1004 dX8_encode_65 rfl rfl (by decide) rfl rfl rfl ?_
            refine v_iconst fx dX8_encode_68 rfl ?_
            refine v_icmp_ne fx 85 dX8_encode_69 (by decide) rfl (by omega) (by omega) (fun h0 => absurd h0 (by omega)) (fun h_118 => ?_)
            refine v_aload_n fx 1 dX8_encode_72 rfl rfl ?_
            refine v_iload_n fx 0 dX8_encode_73 rfl rfl ?_
            refine v_if_eq fx 81 dX8_encode_74 (by decide) rfl (by omega) (fun h_119 => ?_) (fun h0 => absurd h0 (by omega))
            refine v_iconst fx dX8_encode_81 rfl ?_
            refine v_callV (As := [.int (iI 0)]) (rest := []) fx [6, 7] [0, 1, 2, 3, 4, 5] [(h0, ob 8 [.ref xa, .ref xb, .ref xc, .ref xd, .ref xe, .ref xf, .ref xg, .int (iI 0), .int (iI 1), .int (iI vw), .ref xm, .ref xv, .int (iI vg), .ref xw, .int (iI b2_115), .int (iI 1), .ref xq, .int (iI ve), .int (iI vf), .int (iI vu), .int (iI vl), .ref xr, .ref xh, .ref xo, .ref xp, .int (iI vr), .int (iI va), .int (iI vt), .int (iI vm), .int (iI vd), .int (iI vx)]), (xw, aI g 72000 f2_116)] [(xv, aZ g 72000 fg), (xa, aI g 64 (lfT mW 64)), (xb, aI g 64 (lfT mB 64)), (xc, aI g 27 (lfT mWM 27)), (xd, aI g 27 (lfT mBM 27)), (xe, aI g 13 (lfT mBO 13))] 1 0 (c_X8_bit l g h0 xa xb xc xd xe xf xg xm xv xw xq xr xh xo xp 0 1 vw vg b2_115 1 ve vf vu vl vr va vt vm vd vx f2_116 (iI 0) (by first | omega | decide | assumption) (by first | omega | decide | assumption)) dX8_encode_82 k1110 k1112 k23 k57 k1113 ykX8_bit rfl rfl rfl rfl rfl rfl rfl rfl (nl rfl) ⟨nl rfl, nl rfl⟩ ⟨(nl rfl), (nl rfl)⟩ rfl (fun v9 w9 hu => ?_)
            obtain ⟨f2_120, rfl, rfl⟩ := hu
            refine v_is (wn := [(xv, aZ g 72000 fg), (xa, aI g 64 (lfT mW 64)), (xb, aI g 64 (lfT mB 64)), (xc, aI g 27 (lfT mWM 27)), (xd, aI g 27 (lfT mBM 27)), (xe, aI g 13 (lfT mBO 13)), (h0, ob 8 [.ref xa, .ref xb, .ref xc, .ref xd, .ref xe, .ref xf, .ref xg, .int (iI 0), .int (iI 1), .int (iI vw), .ref xm, .ref xv, .int (iI vg), .ref xw, .int (iI (b2_115 + 1)), .int (iI 1), .ref xq, .int (iI ve), .int (iI vf), .int (iI vu), .int (iI vl), .ref xr, .ref xh, .ref xo, .ref xp, .int (iI vr), .int (iI va), .int (iI vt), .int (iI vm), .int (iI vd), .int (iI vx)]), (xw, aI g 72000 f2_120)]) (cn := 0) (sn := 0) (sn2 := []) rfl rfl rfl rfl ?_
            refine v_aload_n fx 1 dX8_encode_85 rfl rfl ?_
            refine v_get fx 6 14 inX8 k1010 dX8_encode_86 rfl rfl (by decide) rfl rfl rfl ?_
            refine v_istore_n fx [(3, .int (iI (b2_115 + 1))), (2, .int (iI 0)), (0, .ref h0), (1, .int (iI y))] dX8_encode_89 (by decide) rfl rfl ?_
            refine v_iload_n fx 1 dX8_encode_90 rfl rfl ?_
            refine v_if_eq fx 106 dX8_encode_91 (by decide) rfl (by omega) (fun h_121 => ?_) (fun h0 => absurd h0 (by omega))
            refine v_aload_n fx 2 dX8_encode_106 rfl rfl ?_
            refine v_sipush fx dX8_encode_107 (by decide +kernel) rfl ?_
            refine v_iload_n fx 3 dX8_encode_110 rfl rfl ?_
            refine v_imul fx (3000 * y) dX8_encode_111 (by rfl) rfl ?_
            refine v_iload_n fx 3 dX8_encode_112 rfl rfl ?_
            refine v_if_ne fx 120 dX8_encode_113 (by decide) rfl (by omega) (fun h_122 => ?_) (fun h_122 => ?_)
            ·
              refine v_sipush fx dX8_encode_120 (by decide +kernel) rfl ?_
              refine v_iload_n fx 3 dX8_encode_123 rfl rfl ?_
              refine v_iconst fx dX8_encode_124 rfl ?_
              refine v_isub fx (y - 1) dX8_encode_125 (by rfl) rfl ?_
              refine v_imul fx (3000 * (y - 1)) dX8_encode_126 (by rfl) rfl ?_
              refine v_callV (As := [.int (iI (3000 * y)), .int (iI (3000 * (y - 1)))]) (rest := []) fx [6, 7, 0, 1, 2, 3, 4, 5] [] [(h0, ob 8 [.ref xa, .ref xb, .ref xc, .ref xd, .ref xe, .ref xf, .ref xg, .int (iI 0), .int (iI 1), .int (iI vw), .ref xm, .ref xv, .int (iI vg), .ref xw, .int (iI (b2_115 + 1)), .int (iI 1), .ref xq, .int (iI ve), .int (iI vf), .int (iI vu), .int (iI vl), .ref xr, .ref xh, .ref xo, .ref xp, .int (iI vr), .int (iI va), .int (iI vt), .int (iI vm), .int (iI vd), .int (iI vx)]), (xw, aI g 72000 f2_120), (xv, aZ g 72000 fg), (xa, aI g 64 (lfT mW 64)), (xb, aI g 64 (lfT mB 64)), (xc, aI g 27 (lfT mWM 27)), (xd, aI g 27 (lfT mBM 27)), (xe, aI g 13 (lfT mBO 13))] [] 2 0 (c_X8_twoDimensions l g h0 xa xb xc xd xe xf xg xm xv xw xq xr xh xo xp 0 1 vw vg (b2_115 + 1) 1 ve vf vu vl vr va vt vm vd vx f2_120 fg (3000 * y) (3000 * (y - 1)) (by first | omega | decide | assumption) (by first | omega | decide | assumption) (by first | omega | decide | assumption) (by first | omega | decide | assumption) (by first | omega | decide | assumption)) dX8_encode_127 k1126 k1128 k27 k57 k1129 ykX8_twoDimensions rfl rfl rfl rfl rfl rfl rfl rfl (nl rfl) ⟨nl rfl, nl rfl⟩ ⟨(nl rfl), (nl rfl)⟩ rfl (fun v9 w9 hu => ?_)
              obtain ⟨b2_123, f2_124, rfl, rfl, u_125⟩ := hu
              refine v_is (wn := [(h0, ob 8 [.ref xa, .ref xb, .ref xc, .ref xd, .ref xe, .ref xf, .ref xg, .int (iI 0), .int (iI 1), .int (iI vw), .ref xm, .ref xv, .int (iI vg), .ref xw, .int (iI b2_123), .int (iI 1), .ref xq, .int (iI ve), .int (iI vf), .int (iI vu), .int (iI vl), .ref xr, .ref xh, .ref xo, .ref xp, .int (iI vr), .int (iI va), .int (iI vt), .int (iI vm), .int (iI vd), .int (iI vx)]), (xw, aI g 72000 f2_124), (xv, aZ g 72000 fg), (xa, aI g 64 (lfT mW 64)), (xb, aI g 64 (lfT mB 64)), (xc, aI g 27 (lfT mWM 27)), (xd, aI g 27 (lfT mBM 27)), (xe, aI g 13 (lfT mBO 13))]) (cn := 0) (sn := 0) (sn2 := []) rfl rfl rfl rfl ?_
              have L130 : ∀ (N : Nat) (b3 : Int) (f3 : Nat → Int32), (0 ≤ b3 ∧ b3 ≤ 21060 * (y + 1)) → (((b2_115 + 1) + vf - b3).toNat) < N → V p9 l e9 (rmD 5 0 0) s9 m9 ag9 bl9 mt9 c9 4 g A9 (MQ bl9 (cQ g (po_c_X8_encode g h0 xa xb xc xd xe xf xg xm xv xw xq xr xh xo xp vc 1 vw vg vb vi ve vf vu vl vr va vt vm vd vx f fg) A9) ag9 s9 0 0 A9) [(h0, ob 8 [.ref xa, .ref xb, .ref xc, .ref xd, .ref xe, .ref xf, .ref xg, .int (iI 0), .int (iI 1), .int (iI vw), .ref xm, .ref xv, .int (iI vg), .ref xw, .int (iI b3), .int (iI 1), .ref xq, .int (iI ve), .int (iI vf), .int (iI vu), .int (iI vl), .ref xr, .ref xh, .ref xo, .ref xp, .int (iI vr), .int (iI va), .int (iI vt), .int (iI vm), .int (iI vd), .int (iI vx)]), (xw, aI g 72000 f3), (xv, aZ g 72000 fg), (xa, aI g 64 (lfT mW 64)), (xb, aI g 64 (lfT mB 64)), (xc, aI g 27 (lfT mWM 27)), (xd, aI g 27 (lfT mBM 27)), (xe, aI g 13 (lfT mBO 13))] 0 0 [(0, .ref h0), (1, .int (iI y)), (3, .int (iI (b2_115 + 1)))] 130 [] := by
                intro N
                induction N with
                | zero => intro b3 f3 hi130_0 hN; exact absurd hN (Nat.not_lt_zero _)
                | succ N ihL130 =>
                  intro b3 f3 hi130_0 hN130
                  refine v_aload_n fx 0 dX8_encode_130 rfl rfl ?_
                  refine v_get fx 0 8 inX8 k1004 dX8_encode_131 rfl rfl (by decide) rfl rfl rfl ?_
                  refine v_iconst fx dX8_encode_134 rfl ?_
                  refine v_icmp_ge fx 159 dX8_encode_135 (by decide) rfl (by omega) (by omega) (fun h0 => absurd h0 (by omega)) (fun h_126 => ?_)
                  refine v_aload_n fx 0 dX8_encode_138 rfl rfl ?_
                  refine v_get fx 0 14 inX8 k1010 dX8_encode_139 rfl rfl (by decide) rfl rfl rfl ?_
                  refine v_iload_n fx 2 dX8_encode_142 rfl rfl ?_
                  refine v_isub fx (b3 - (b2_115 + 1)) dX8_encode_143 (by rfl) rfl ?_
                  refine v_aload_n fx 0 dX8_encode_144 rfl rfl ?_
                  refine v_get fx 0 18 inX8 k1014 dX8_encode_145 rfl rfl (by decide) rfl rfl rfl ?_
                  refine v_icmp_ge fx 159 dX8_encode_148 (by decide) rfl (by omega) (by omega) (fun h_127 => ?_) (fun h_127 => ?_)
                  ·
                    refine v_iinc fx 1 (y + 1) [(1, .int (iI (y + 1))), (0, .ref h0), (3, .int (iI (b2_115 + 1)))] dX8_encode_159 rfl (by omega) (by decide) rfl rfl ?_
                    refine v_goto fx 17 dX8_encode_162 (by decide) ?_
                    refine v_lv [1, 0] [(0, .ref h0), (1, .int (iI (y + 1)))] rfl ?_
                    exact ihL17 (y + 1) b3 f3 (by omega) (by omega) (by omega)
                  ·
                    refine v_aload_n fx 0 dX8_encode_151 rfl rfl ?_
                    refine v_iconst fx dX8_encode_152 rfl ?_
                    refine v_callV (As := [.int (iI 0)]) (rest := []) fx [0, 1] [2, 3, 4, 5, 6, 7] [(h0, ob 8 [.ref xa, .ref xb, .ref xc, .ref xd, .ref xe, .ref xf, .ref xg, .int (iI 0), .int (iI 1), .int (iI vw), .ref xm, .ref xv, .int (iI vg), .ref xw, .int (iI b3), .int (iI 1), .ref xq, .int (iI ve), .int (iI vf), .int (iI vu), .int (iI vl), .ref xr, .ref xh, .ref xo, .ref xp, .int (iI vr), .int (iI va), .int (iI vt), .int (iI vm), .int (iI vd), .int (iI vx)]), (xw, aI g 72000 f3)] [(xv, aZ g 72000 fg), (xa, aI g 64 (lfT mW 64)), (xb, aI g 64 (lfT mB 64)), (xc, aI g 27 (lfT mWM 27)), (xd, aI g 27 (lfT mBM 27)), (xe, aI g 13 (lfT mBO 13))] 1 0 (c_X8_bit l g h0 xa xb xc xd xe xf xg xm xv xw xq xr xh xo xp 0 1 vw vg b3 1 ve vf vu vl vr va vt vm vd vx f3 (iI 0) (by first | omega | decide | assumption) (by first | omega | decide | assumption)) dX8_encode_153 k1110 k1112 k23 k57 k1113 ykX8_bit rfl rfl rfl rfl rfl rfl rfl rfl (nl rfl) ⟨nl rfl, nl rfl⟩ ⟨(nl rfl), (nl rfl)⟩ rfl (fun v9 w9 hu => ?_)
                    obtain ⟨f2_128, rfl, rfl⟩ := hu
                    refine v_is (wn := [(xv, aZ g 72000 fg), (xa, aI g 64 (lfT mW 64)), (xb, aI g 64 (lfT mB 64)), (xc, aI g 27 (lfT mWM 27)), (xd, aI g 27 (lfT mBM 27)), (xe, aI g 13 (lfT mBO 13)), (h0, ob 8 [.ref xa, .ref xb, .ref xc, .ref xd, .ref xe, .ref xf, .ref xg, .int (iI 0), .int (iI 1), .int (iI vw), .ref xm, .ref xv, .int (iI vg), .ref xw, .int (iI (b3 + 1)), .int (iI 1), .ref xq, .int (iI ve), .int (iI vf), .int (iI vu), .int (iI vl), .ref xr, .ref xh, .ref xo, .ref xp, .int (iI vr), .int (iI va), .int (iI vt), .int (iI vm), .int (iI vd), .int (iI vx)]), (xw, aI g 72000 f2_128)]) (cn := 0) (sn := 0) (sn2 := []) rfl rfl rfl rfl ?_
                    refine v_goto fx 130 dX8_encode_156 (by decide) ?_
                    refine v_ws [6, 7, 0, 1, 2, 3, 4, 5] [(h0, ob 8 [.ref xa, .ref xb, .ref xc, .ref xd, .ref xe, .ref xf, .ref xg, .int (iI 0), .int (iI 1), .int (iI vw), .ref xm, .ref xv, .int (iI vg), .ref xw, .int (iI (b3 + 1)), .int (iI 1), .ref xq, .int (iI ve), .int (iI vf), .int (iI vu), .int (iI vl), .ref xr, .ref xh, .ref xo, .ref xp, .int (iI vr), .int (iI va), .int (iI vt), .int (iI vm), .int (iI vd), .int (iI vx)]), (xw, aI g 72000 f2_128), (xv, aZ g 72000 fg), (xa, aI g 64 (lfT mW 64)), (xb, aI g 64 (lfT mB 64)), (xc, aI g 27 (lfT mWM 27)), (xd, aI g 27 (lfT mBM 27)), (xe, aI g 13 (lfT mBO 13))] rfl rfl ?_
                    exact ihL130 (b3 + 1) f2_128 (by omega) (by omega)
              refine v_lv [2, 3, 0] [(0, .ref h0), (1, .int (iI y)), (3, .int (iI (b2_115 + 1)))] rfl ?_
              exact L130 _ b2_123 f2_124 (by omega) (Nat.lt_succ_self _)
            ·
              refine v_iconst fx dX8_encode_116 rfl ?_
              refine v_goto fx 127 dX8_encode_117 (by decide) ?_
              refine v_callV (As := [.int (iI (3000 * y)), .int (iI (-1))]) (rest := []) fx [6, 7, 0, 1, 2, 3, 4, 5] [] [(h0, ob 8 [.ref xa, .ref xb, .ref xc, .ref xd, .ref xe, .ref xf, .ref xg, .int (iI 0), .int (iI 1), .int (iI vw), .ref xm, .ref xv, .int (iI vg), .ref xw, .int (iI (b2_115 + 1)), .int (iI 1), .ref xq, .int (iI ve), .int (iI vf), .int (iI vu), .int (iI vl), .ref xr, .ref xh, .ref xo, .ref xp, .int (iI vr), .int (iI va), .int (iI vt), .int (iI vm), .int (iI vd), .int (iI vx)]), (xw, aI g 72000 f2_120), (xv, aZ g 72000 fg), (xa, aI g 64 (lfT mW 64)), (xb, aI g 64 (lfT mB 64)), (xc, aI g 27 (lfT mWM 27)), (xd, aI g 27 (lfT mBM 27)), (xe, aI g 13 (lfT mBO 13))] [] 2 0 (c_X8_twoDimensions l g h0 xa xb xc xd xe xf xg xm xv xw xq xr xh xo xp 0 1 vw vg (b2_115 + 1) 1 ve vf vu vl vr va vt vm vd vx f2_120 fg (3000 * y) (-1) (by first | omega | decide | assumption) (by first | omega | decide | assumption) (by first | omega | decide | assumption) (by first | omega | decide | assumption) (by first | omega | decide | assumption)) dX8_encode_127 k1126 k1128 k27 k57 k1129 ykX8_twoDimensions rfl rfl rfl rfl rfl rfl rfl rfl (nl rfl) ⟨nl rfl, nl rfl⟩ ⟨(nl rfl), (nl rfl)⟩ rfl (fun v9 w9 hu => ?_)
              obtain ⟨b2_129, f2_130, rfl, rfl, u_131⟩ := hu
              refine v_is (wn := [(h0, ob 8 [.ref xa, .ref xb, .ref xc, .ref xd, .ref xe, .ref xf, .ref xg, .int (iI 0), .int (iI 1), .int (iI vw), .ref xm, .ref xv, .int (iI vg), .ref xw, .int (iI b2_129), .int (iI 1), .ref xq, .int (iI ve), .int (iI vf), .int (iI vu), .int (iI vl), .ref xr, .ref xh, .ref xo, .ref xp, .int (iI vr), .int (iI va), .int (iI vt), .int (iI vm), .int (iI vd), .int (iI vx)]), (xw, aI g 72000 f2_130), (xv, aZ g 72000 fg), (xa, aI g 64 (lfT mW 64)), (xb, aI g 64 (lfT mB 64)), (xc, aI g 27 (lfT mWM 27)), (xd, aI g 27 (lfT mBM 27)), (xe, aI g 13 (lfT mBO 13))]) (cn := 0) (sn := 0) (sn2 := []) rfl rfl rfl rfl ?_
              have L130 : ∀ (N : Nat) (b3 : Int) (f3 : Nat → Int32), (0 ≤ b3 ∧ b3 ≤ 21060 * (y + 1)) → (((b2_115 + 1) + vf - b3).toNat) < N → V p9 l e9 (rmD 5 0 0) s9 m9 ag9 bl9 mt9 c9 4 g A9 (MQ bl9 (cQ g (po_c_X8_encode g h0 xa xb xc xd xe xf xg xm xv xw xq xr xh xo xp vc 1 vw vg vb vi ve vf vu vl vr va vt vm vd vx f fg) A9) ag9 s9 0 0 A9) [(h0, ob 8 [.ref xa, .ref xb, .ref xc, .ref xd, .ref xe, .ref xf, .ref xg, .int (iI 0), .int (iI 1), .int (iI vw), .ref xm, .ref xv, .int (iI vg), .ref xw, .int (iI b3), .int (iI 1), .ref xq, .int (iI ve), .int (iI vf), .int (iI vu), .int (iI vl), .ref xr, .ref xh, .ref xo, .ref xp, .int (iI vr), .int (iI va), .int (iI vt), .int (iI vm), .int (iI vd), .int (iI vx)]), (xw, aI g 72000 f3), (xv, aZ g 72000 fg), (xa, aI g 64 (lfT mW 64)), (xb, aI g 64 (lfT mB 64)), (xc, aI g 27 (lfT mWM 27)), (xd, aI g 27 (lfT mBM 27)), (xe, aI g 13 (lfT mBO 13))] 0 0 [(0, .ref h0), (1, .int (iI y)), (3, .int (iI (b2_115 + 1)))] 130 [] := by
                intro N
                induction N with
                | zero => intro b3 f3 hi130_0 hN; exact absurd hN (Nat.not_lt_zero _)
                | succ N ihL130 =>
                  intro b3 f3 hi130_0 hN130
                  refine v_aload_n fx 0 dX8_encode_130 rfl rfl ?_
                  refine v_get fx 0 8 inX8 k1004 dX8_encode_131 rfl rfl (by decide) rfl rfl rfl ?_
                  refine v_iconst fx dX8_encode_134 rfl ?_
                  refine v_icmp_ge fx 159 dX8_encode_135 (by decide) rfl (by omega) (by omega) (fun h0 => absurd h0 (by omega)) (fun h_132 => ?_)
                  refine v_aload_n fx 0 dX8_encode_138 rfl rfl ?_
                  refine v_get fx 0 14 inX8 k1010 dX8_encode_139 rfl rfl (by decide) rfl rfl rfl ?_
                  refine v_iload_n fx 2 dX8_encode_142 rfl rfl ?_
                  refine v_isub fx (b3 - (b2_115 + 1)) dX8_encode_143 (by rfl) rfl ?_
                  refine v_aload_n fx 0 dX8_encode_144 rfl rfl ?_
                  refine v_get fx 0 18 inX8 k1014 dX8_encode_145 rfl rfl (by decide) rfl rfl rfl ?_
                  refine v_icmp_ge fx 159 dX8_encode_148 (by decide) rfl (by omega) (by omega) (fun h_133 => ?_) (fun h_133 => ?_)
                  ·
                    refine v_iinc fx 1 (y + 1) [(1, .int (iI (y + 1))), (0, .ref h0), (3, .int (iI (b2_115 + 1)))] dX8_encode_159 rfl (by omega) (by decide) rfl rfl ?_
                    refine v_goto fx 17 dX8_encode_162 (by decide) ?_
                    refine v_lv [1, 0] [(0, .ref h0), (1, .int (iI (y + 1)))] rfl ?_
                    exact ihL17 (y + 1) b3 f3 (by omega) (by omega) (by omega)
                  ·
                    refine v_aload_n fx 0 dX8_encode_151 rfl rfl ?_
                    refine v_iconst fx dX8_encode_152 rfl ?_
                    refine v_callV (As := [.int (iI 0)]) (rest := []) fx [0, 1] [2, 3, 4, 5, 6, 7] [(h0, ob 8 [.ref xa, .ref xb, .ref xc, .ref xd, .ref xe, .ref xf, .ref xg, .int (iI 0), .int (iI 1), .int (iI vw), .ref xm, .ref xv, .int (iI vg), .ref xw, .int (iI b3), .int (iI 1), .ref xq, .int (iI ve), .int (iI vf), .int (iI vu), .int (iI vl), .ref xr, .ref xh, .ref xo, .ref xp, .int (iI vr), .int (iI va), .int (iI vt), .int (iI vm), .int (iI vd), .int (iI vx)]), (xw, aI g 72000 f3)] [(xv, aZ g 72000 fg), (xa, aI g 64 (lfT mW 64)), (xb, aI g 64 (lfT mB 64)), (xc, aI g 27 (lfT mWM 27)), (xd, aI g 27 (lfT mBM 27)), (xe, aI g 13 (lfT mBO 13))] 1 0 (c_X8_bit l g h0 xa xb xc xd xe xf xg xm xv xw xq xr xh xo xp 0 1 vw vg b3 1 ve vf vu vl vr va vt vm vd vx f3 (iI 0) (by first | omega | decide | assumption) (by first | omega | decide | assumption)) dX8_encode_153 k1110 k1112 k23 k57 k1113 ykX8_bit rfl rfl rfl rfl rfl rfl rfl rfl (nl rfl) ⟨nl rfl, nl rfl⟩ ⟨(nl rfl), (nl rfl)⟩ rfl (fun v9 w9 hu => ?_)
                    obtain ⟨f2_134, rfl, rfl⟩ := hu
                    refine v_is (wn := [(xv, aZ g 72000 fg), (xa, aI g 64 (lfT mW 64)), (xb, aI g 64 (lfT mB 64)), (xc, aI g 27 (lfT mWM 27)), (xd, aI g 27 (lfT mBM 27)), (xe, aI g 13 (lfT mBO 13)), (h0, ob 8 [.ref xa, .ref xb, .ref xc, .ref xd, .ref xe, .ref xf, .ref xg, .int (iI 0), .int (iI 1), .int (iI vw), .ref xm, .ref xv, .int (iI vg), .ref xw, .int (iI (b3 + 1)), .int (iI 1), .ref xq, .int (iI ve), .int (iI vf), .int (iI vu), .int (iI vl), .ref xr, .ref xh, .ref xo, .ref xp, .int (iI vr), .int (iI va), .int (iI vt), .int (iI vm), .int (iI vd), .int (iI vx)]), (xw, aI g 72000 f2_134)]) (cn := 0) (sn := 0) (sn2 := []) rfl rfl rfl rfl ?_
                    refine v_goto fx 130 dX8_encode_156 (by decide) ?_
                    refine v_ws [6, 7, 0, 1, 2, 3, 4, 5] [(h0, ob 8 [.ref xa, .ref xb, .ref xc, .ref xd, .ref xe, .ref xf, .ref xg, .int (iI 0), .int (iI 1), .int (iI vw), .ref xm, .ref xv, .int (iI vg), .ref xw, .int (iI (b3 + 1)), .int (iI 1), .ref xq, .int (iI ve), .int (iI vf), .int (iI vu), .int (iI vl), .ref xr, .ref xh, .ref xo, .ref xp, .int (iI vr), .int (iI va), .int (iI vt), .int (iI vm), .int (iI vd), .int (iI vx)]), (xw, aI g 72000 f2_134), (xv, aZ g 72000 fg), (xa, aI g 64 (lfT mW 64)), (xb, aI g 64 (lfT mB 64)), (xc, aI g 27 (lfT mWM 27)), (xd, aI g 27 (lfT mBM 27)), (xe, aI g 13 (lfT mBO 13))] rfl rfl ?_
                    exact ihL130 (b3 + 1) f2_134 (by omega) (by omega)
              refine v_lv [2, 3, 0] [(0, .ref h0), (1, .int (iI y)), (3, .int (iI (b2_115 + 1)))] rfl ?_
              exact L130 _ b2_129 f2_130 (by omega) (Nat.lt_succ_self _)
          ·
            refine v_iconst fx dX8_encode_46 rfl ?_
            refine v_goto fx 51 dX8_encode_47 (by decide) ?_
            refine v_istore_n fx [(2, .int (iI 1)), (0, .ref h0), (1, .int (iI y))] dX8_encode_51 (by decide) rfl rfl ?_
            refine v_aload_n fx 1 dX8_encode_52 rfl rfl ?_
            refine v_get fx 0 8 inX8 k1004 dX8_encode_53 rfl rfl (by decide) rfl rfl rfl ?_
            refine v_iconst fx dX8_encode_56 rfl ?_
            refine v_icmp_ge fx 64 dX8_encode_57 (by decide) rfl (by omega) (by omega) (fun h0 => absurd h0 (by omega)) (fun h_135 => ?_)
            refine v_aload_n fx 1 dX8_encode_60 rfl rfl ?_
            refine v_callV (As := []) (rest := []) fx [0, 1] [2, 3, 4, 5, 6, 7] [(h0, ob 8 [.ref xa, .ref xb, .ref xc, .ref xd, .ref xe, .ref xf, .ref xg, .int (iI 0), .int (iI 1), .int (iI vw), .ref xm, .ref xv, .int (iI vg), .ref xw, .int (iI b1), .int (iI 1), .ref xq, .int (iI ve), .int (iI vf), .int (iI vu), .int (iI vl), .ref xr, .ref xh, .ref xo, .ref xp, .int (iI vr), .int (iI va), .int (iI vt), .int (iI vm), .int (iI vd), .int (iI vx)]), (xw, aI g 72000 f1)] [(xv, aZ g 72000 fg), (xa, aI g 64 (lfT mW 64)), (xb, aI g 64 (lfT mB 64)), (xc, aI g 27 (lfT mWM 27)), (xd, aI g 27 (lfT mBM 27)), (xe, aI g 13 (lfT mBO 13))] 0 0 (c_X8_mark l g h0 xa xb xc xd xe xf xg xm xv xw xq xr xh xo xp 0 1 vw vg b1 1 ve vf vu vl vr va vt vm vd vx f1 (by first | omega | decide | assumption) (by first | omega | decide | assumption)) dX8_encode_61 k1102 k1104 k21 k57 k1105 ykX8_mark rfl rfl rfl rfl rfl rfl rfl rfl (nl rfl) ⟨nl rfl, nl rfl⟩ ⟨(nl rfl), (nl rfl)⟩ rfl (fun v9 w9 hu => ?_)
            obtain ⟨b2_136, f2_137, rfl, rfl, u_138⟩ := hu
            refine v_is (wn := [(xv, aZ g 72000 fg), (xa, aI g 64 (lfT mW 64)), (xb, aI g 64 (lfT mB 64)), (xc, aI g 27 (lfT mWM 27)), (xd, aI g 27 (lfT mBM 27)), (xe, aI g 13 (lfT mBO 13)), (h0, ob 8 [.ref xa, .ref xb, .ref xc, .ref xd, .ref xe, .ref xf, .ref xg, .int (iI 0), .int (iI 1), .int (iI vw), .ref xm, .ref xv, .int (iI vg), .ref xw, .int (iI b2_136), .int (iI 1), .ref xq, .int (iI ve), .int (iI vf), .int (iI vu), .int (iI vl), .ref xr, .ref xh, .ref xo, .ref xp, .int (iI vr), .int (iI va), .int (iI vt), .int (iI vm), .int (iI vd), .int (iI vx)]), (xw, aI g 72000 f2_137)]) (cn := 0) (sn := 0) (sn2 := []) rfl rfl rfl rfl ?_
            refine v_aload_n fx 1 dX8_encode_64 rfl rfl ?_
            refine v_get fx 6 8 inX8 k1004 dX8_encode_65 rfl rfl (by decide) rfl rfl rfl ?_
            refine v_iconst fx dX8_encode_68 rfl ?_
            refine v_icmp_ne fx 85 dX8_encode_69 (by decide) rfl (by omega) (by omega) (fun h0 => absurd h0 (by omega)) (fun h_139 => ?_)
            refine v_aload_n fx 1 dX8_encode_72 rfl rfl ?_
            refine v_iload_n fx 0 dX8_encode_73 rfl rfl ?_
            refine v_if_eq fx 81 dX8_encode_74 (by decide) rfl (by omega) (fun h0 => absurd h0 (by omega)) (fun h_140 => ?_)
            refine v_iconst fx dX8_encode_77 rfl ?_
            refine v_goto fx 82 dX8_encode_78 (by decide) ?_
            refine v_callV (As := [.int (iI 1)]) (rest := []) fx [6, 7] [0, 1, 2, 3, 4, 5] [(h0, ob 8 [.ref xa, .ref xb, .ref xc, .ref xd, .ref xe, .ref xf, .ref xg, .int (iI 0), .int (iI 1), .int (iI vw), .ref xm, .ref xv, .int (iI vg), .ref xw, .int (iI b2_136), .int (iI 1), .ref xq, .int (iI ve), .int (iI vf), .int (iI vu), .int (iI vl), .ref xr, .ref xh, .ref xo, .ref xp, .int (iI vr), .int (iI va), .int (iI vt), .int (iI vm), .int (iI vd), .int (iI vx)]), (xw, aI g 72000 f2_137)] [(xv, aZ g 72000 fg), (xa, aI g 64 (lfT mW 64)), (xb, aI g 64 (lfT mB 64)), (xc, aI g 27 (lfT mWM 27)), (xd, aI g 27 (lfT mBM 27)), (xe, aI g 13 (lfT mBO 13))] 1 0 (c_X8_bit l g h0 xa xb xc xd xe xf xg xm xv xw xq xr xh xo xp 0 1 vw vg b2_136 1 ve vf vu vl vr va vt vm vd vx f2_137 (iI 1) (by first | omega | decide | assumption) (by first | omega | decide | assumption)) dX8_encode_82 k1110 k1112 k23 k57 k1113 ykX8_bit rfl rfl rfl rfl rfl rfl rfl rfl (nl rfl) ⟨nl rfl, nl rfl⟩ ⟨(nl rfl), (nl rfl)⟩ rfl (fun v9 w9 hu => ?_)
            obtain ⟨f2_141, rfl, rfl⟩ := hu
            refine v_is (wn := [(xv, aZ g 72000 fg), (xa, aI g 64 (lfT mW 64)), (xb, aI g 64 (lfT mB 64)), (xc, aI g 27 (lfT mWM 27)), (xd, aI g 27 (lfT mBM 27)), (xe, aI g 13 (lfT mBO 13)), (h0, ob 8 [.ref xa, .ref xb, .ref xc, .ref xd, .ref xe, .ref xf, .ref xg, .int (iI 0), .int (iI 1), .int (iI vw), .ref xm, .ref xv, .int (iI vg), .ref xw, .int (iI (b2_136 + 1)), .int (iI 1), .ref xq, .int (iI ve), .int (iI vf), .int (iI vu), .int (iI vl), .ref xr, .ref xh, .ref xo, .ref xp, .int (iI vr), .int (iI va), .int (iI vt), .int (iI vm), .int (iI vd), .int (iI vx)]), (xw, aI g 72000 f2_141)]) (cn := 0) (sn := 0) (sn2 := []) rfl rfl rfl rfl ?_
            refine v_aload_n fx 1 dX8_encode_85 rfl rfl ?_
            refine v_get fx 6 14 inX8 k1010 dX8_encode_86 rfl rfl (by decide) rfl rfl rfl ?_
            refine v_istore_n fx [(3, .int (iI (b2_136 + 1))), (2, .int (iI 1)), (0, .ref h0), (1, .int (iI y))] dX8_encode_89 (by decide) rfl rfl ?_
            refine v_iload_n fx 1 dX8_encode_90 rfl rfl ?_
            refine v_if_eq fx 106 dX8_encode_91 (by decide) rfl (by omega) (fun h0 => absurd h0 (by omega)) (fun h_142 => ?_)
            refine v_aload_n fx 2 dX8_encode_94 rfl rfl ?_
            refine v_sipush fx dX8_encode_95 (by decide +kernel) rfl ?_
            refine v_iload_n fx 3 dX8_encode_98 rfl rfl ?_
            refine v_imul fx (3000 * y) dX8_encode_99 (by rfl) rfl ?_
            refine v_callV (As := [.int (iI (3000 * y))]) (rest := []) fx [6, 7, 0, 1, 2, 3, 4, 5] [] [(h0, ob 8 [.ref xa, .ref xb, .ref xc, .ref xd, .ref xe, .ref xf, .ref xg, .int (iI 0), .int (iI 1), .int (iI vw), .ref xm, .ref xv, .int (iI vg), .ref xw, .int (iI (b2_136 + 1)), .int (iI 1), .ref xq, .int (iI ve), .int (iI vf), .int (iI vu), .int (iI vl), .ref xr, .ref xh, .ref xo, .ref xp, .int (iI vr), .int (iI va), .int (iI vt), .int (iI vm), .int (iI vd), .int (iI vx)]), (xw, aI g 72000 f2_141), (xv, aZ g 72000 fg), (xa, aI g 64 (lfT mW 64)), (xb, aI g 64 (lfT mB 64)), (xc, aI g 27 (lfT mWM 27)), (xd, aI g 27 (lfT mBM 27)), (xe, aI g 13 (lfT mBO 13))] [] 1 0 (c_X8_oneDimension l g h0 xa xb xc xd xe xf xg xm xv xw xq xr xh xo xp 0 1 vw vg (b2_136 + 1) 1 ve vf vu vl vr va vt vm vd vx f2_141 fg (3000 * y) (by first | omega | decide | assumption) (by first | omega | decide | assumption) (by first | omega | decide | assumption) (by first | omega | decide | assumption) (by first | omega | decide | assumption)) dX8_encode_100 k1114 k1116 k24 k57 k1117 ykX8_oneDimension rfl rfl rfl rfl rfl rfl rfl rfl (nl rfl) ⟨nl rfl, nl rfl⟩ ⟨(nl rfl), (nl rfl)⟩ rfl (fun v9 w9 hu => ?_)
            obtain ⟨b2_143, f2_144, rfl, rfl, u_145⟩ := hu
            refine v_is (wn := [(h0, ob 8 [.ref xa, .ref xb, .ref xc, .ref xd, .ref xe, .ref xf, .ref xg, .int (iI 0), .int (iI 1), .int (iI vw), .ref xm, .ref xv, .int (iI vg), .ref xw, .int (iI b2_143), .int (iI 1), .ref xq, .int (iI ve), .int (iI vf), .int (iI vu), .int (iI vl), .ref xr, .ref xh, .ref xo, .ref xp, .int (iI vr), .int (iI va), .int (iI vt), .int (iI vm), .int (iI vd), .int (iI vx)]), (xw, aI g 72000 f2_144), (xv, aZ g 72000 fg), (xa, aI g 64 (lfT mW 64)), (xb, aI g 64 (lfT mB 64)), (xc, aI g 27 (lfT mWM 27)), (xd, aI g 27 (lfT mBM 27)), (xe, aI g 13 (lfT mBO 13))]) (cn := 0) (sn := 0) (sn2 := []) rfl rfl rfl rfl ?_
            refine v_goto fx 130 dX8_encode_103 (by decide) ?_
            have L130 : ∀ (N : Nat) (b3 : Int) (f3 : Nat → Int32), (0 ≤ b3 ∧ b3 ≤ 21060 * (y + 1)) → (((b2_136 + 1) + vf - b3).toNat) < N → V p9 l e9 (rmD 5 0 0) s9 m9 ag9 bl9 mt9 c9 4 g A9 (MQ bl9 (cQ g (po_c_X8_encode g h0 xa xb xc xd xe xf xg xm xv xw xq xr xh xo xp vc 1 vw vg vb vi ve vf vu vl vr va vt vm vd vx f fg) A9) ag9 s9 0 0 A9) [(h0, ob 8 [.ref xa, .ref xb, .ref xc, .ref xd, .ref xe, .ref xf, .ref xg, .int (iI 0), .int (iI 1), .int (iI vw), .ref xm, .ref xv, .int (iI vg), .ref xw, .int (iI b3), .int (iI 1), .ref xq, .int (iI ve), .int (iI vf), .int (iI vu), .int (iI vl), .ref xr, .ref xh, .ref xo, .ref xp, .int (iI vr), .int (iI va), .int (iI vt), .int (iI vm), .int (iI vd), .int (iI vx)]), (xw, aI g 72000 f3), (xv, aZ g 72000 fg), (xa, aI g 64 (lfT mW 64)), (xb, aI g 64 (lfT mB 64)), (xc, aI g 27 (lfT mWM 27)), (xd, aI g 27 (lfT mBM 27)), (xe, aI g 13 (lfT mBO 13))] 0 0 [(0, .ref h0), (1, .int (iI y)), (3, .int (iI (b2_136 + 1)))] 130 [] := by
              intro N
              induction N with
              | zero => intro b3 f3 hi130_0 hN; exact absurd hN (Nat.not_lt_zero _)
              | succ N ihL130 =>
                intro b3 f3 hi130_0 hN130
                refine v_aload_n fx 0 dX8_encode_130 rfl rfl ?_
                refine v_get fx 0 8 inX8 k1004 dX8_encode_131 rfl rfl (by decide) rfl rfl rfl ?_
                refine v_iconst fx dX8_encode_134 rfl ?_
                refine v_icmp_ge fx 159 dX8_encode_135 (by decide) rfl (by omega) (by omega) (fun h0 => absurd h0 (by omega)) (fun h_146 => ?_)
                refine v_aload_n fx 0 dX8_encode_138 rfl rfl ?_
                refine v_get fx 0 14 inX8 k1010 dX8_encode_139 rfl rfl (by decide) rfl rfl rfl ?_
                refine v_iload_n fx 2 dX8_encode_142 rfl rfl ?_
                refine v_isub fx (b3 - (b2_136 + 1)) dX8_encode_143 (by rfl) rfl ?_
                refine v_aload_n fx 0 dX8_encode_144 rfl rfl ?_
                refine v_get fx 0 18 inX8 k1014 dX8_encode_145 rfl rfl (by decide) rfl rfl rfl ?_
                refine v_icmp_ge fx 159 dX8_encode_148 (by decide) rfl (by omega) (by omega) (fun h_147 => ?_) (fun h_147 => ?_)
                ·
                  refine v_iinc fx 1 (y + 1) [(1, .int (iI (y + 1))), (0, .ref h0), (3, .int (iI (b2_136 + 1)))] dX8_encode_159 rfl (by omega) (by decide) rfl rfl ?_
                  refine v_goto fx 17 dX8_encode_162 (by decide) ?_
                  refine v_lv [1, 0] [(0, .ref h0), (1, .int (iI (y + 1)))] rfl ?_
                  exact ihL17 (y + 1) b3 f3 (by omega) (by omega) (by omega)
                ·
                  refine v_aload_n fx 0 dX8_encode_151 rfl rfl ?_
                  refine v_iconst fx dX8_encode_152 rfl ?_
                  refine v_callV (As := [.int (iI 0)]) (rest := []) fx [0, 1] [2, 3, 4, 5, 6, 7] [(h0, ob 8 [.ref xa, .ref xb, .ref xc, .ref xd, .ref xe, .ref xf, .ref xg, .int (iI 0), .int (iI 1), .int (iI vw), .ref xm, .ref xv, .int (iI vg), .ref xw, .int (iI b3), .int (iI 1), .ref xq, .int (iI ve), .int (iI vf), .int (iI vu), .int (iI vl), .ref xr, .ref xh, .ref xo, .ref xp, .int (iI vr), .int (iI va), .int (iI vt), .int (iI vm), .int (iI vd), .int (iI vx)]), (xw, aI g 72000 f3)] [(xv, aZ g 72000 fg), (xa, aI g 64 (lfT mW 64)), (xb, aI g 64 (lfT mB 64)), (xc, aI g 27 (lfT mWM 27)), (xd, aI g 27 (lfT mBM 27)), (xe, aI g 13 (lfT mBO 13))] 1 0 (c_X8_bit l g h0 xa xb xc xd xe xf xg xm xv xw xq xr xh xo xp 0 1 vw vg b3 1 ve vf vu vl vr va vt vm vd vx f3 (iI 0) (by first | omega | decide | assumption) (by first | omega | decide | assumption)) dX8_encode_153 k1110 k1112 k23 k57 k1113 ykX8_bit rfl rfl rfl rfl rfl rfl rfl rfl (nl rfl) ⟨nl rfl, nl rfl⟩ ⟨(nl rfl), (nl rfl)⟩ rfl (fun v9 w9 hu => ?_)
                  obtain ⟨f2_148, rfl, rfl⟩ := hu
                  refine v_is (wn := [(xv, aZ g 72000 fg), (xa, aI g 64 (lfT mW 64)), (xb, aI g 64 (lfT mB 64)), (xc, aI g 27 (lfT mWM 27)), (xd, aI g 27 (lfT mBM 27)), (xe, aI g 13 (lfT mBO 13)), (h0, ob 8 [.ref xa, .ref xb, .ref xc, .ref xd, .ref xe, .ref xf, .ref xg, .int (iI 0), .int (iI 1), .int (iI vw), .ref xm, .ref xv, .int (iI vg), .ref xw, .int (iI (b3 + 1)), .int (iI 1), .ref xq, .int (iI ve), .int (iI vf), .int (iI vu), .int (iI vl), .ref xr, .ref xh, .ref xo, .ref xp, .int (iI vr), .int (iI va), .int (iI vt), .int (iI vm), .int (iI vd), .int (iI vx)]), (xw, aI g 72000 f2_148)]) (cn := 0) (sn := 0) (sn2 := []) rfl rfl rfl rfl ?_
                  refine v_goto fx 130 dX8_encode_156 (by decide) ?_
                  refine v_ws [6, 7, 0, 1, 2, 3, 4, 5] [(h0, ob 8 [.ref xa, .ref xb, .ref xc, .ref xd, .ref xe, .ref xf, .ref xg, .int (iI 0), .int (iI 1), .int (iI vw), .ref xm, .ref xv, .int (iI vg), .ref xw, .int (iI (b3 + 1)), .int (iI 1), .ref xq, .int (iI ve), .int (iI vf), .int (iI vu), .int (iI vl), .ref xr, .ref xh, .ref xo, .ref xp, .int (iI vr), .int (iI va), .int (iI vt), .int (iI vm), .int (iI vd), .int (iI vx)]), (xw, aI g 72000 f2_148), (xv, aZ g 72000 fg), (xa, aI g 64 (lfT mW 64)), (xb, aI g 64 (lfT mB 64)), (xc, aI g 27 (lfT mWM 27)), (xd, aI g 27 (lfT mBM 27)), (xe, aI g 13 (lfT mBO 13))] rfl rfl ?_
                  exact ihL130 (b3 + 1) f2_148 (by omega) (by omega)
            refine v_lv [2, 3, 0] [(0, .ref h0), (1, .int (iI y)), (3, .int (iI (b2_136 + 1)))] rfl ?_
            exact L130 _ b2_143 f2_144 (by omega) (Nat.lt_succ_self _)
        ·
          refine v_aload_n fx 0 dX8_encode_25 rfl rfl ?_
          refine v_get fx 0 8 inX8 k1004 dX8_encode_26 rfl rfl (by decide) rfl rfl rfl ?_
          refine v_if_eq fx 46 dX8_encode_29 (by decide) rfl (by omega) (fun h0 => absurd h0 (by omega)) (fun h_149 => ?_)
          refine v_aload_n fx 0 dX8_encode_32 rfl rfl ?_
          refine v_get fx 0 8 inX8 k1004 dX8_encode_33 rfl rfl (by decide) rfl rfl rfl ?_
          refine v_iconst fx dX8_encode_36 rfl ?_
          refine v_icmp_ne fx 50 dX8_encode_37 (by decide) rfl (by omega) (by omega) (fun h_150 => ?_) (fun h0 => absurd h0 (by omega))
          refine v_iconst fx dX8_encode_50 rfl ?_
          refine v_istore_n fx [(2, .int (iI 0)), (0, .ref h0), (1, .int (iI y))] dX8_encode_51 (by decide) rfl rfl ?_
          refine v_aload_n fx 1 dX8_encode_52 rfl rfl ?_
          refine v_get fx 0 8 inX8 k1004 dX8_encode_53 rfl rfl (by decide) rfl rfl rfl ?_
          refine v_iconst fx dX8_encode_56 rfl ?_
          refine v_icmp_ge fx 64 dX8_encode_57 (by decide) rfl (by omega) (by omega) (fun h_151 => ?_) (fun h0 => absurd h0 (by omega))
          refine v_aload_n fx 1 dX8_encode_64 rfl rfl ?_
          refine v_get fx 0 8 inX8 k1004 dX8_encode_65 rfl rfl (by decide) rfl rfl rfl ?_
          refine v_iconst fx dX8_encode_68 rfl ?_
          refine v_icmp_ne fx 85 dX8_encode_69 (by decide) rfl (by omega) (by omega) (fun h_152 => ?_) (fun h0 => absurd h0 (by omega))
          refine v_aload_n fx 1 dX8_encode_85 rfl rfl ?_
          refine v_get fx 0 14 inX8 k1010 dX8_encode_86 rfl rfl (by decide) rfl rfl rfl ?_
          refine v_istore_n fx [(3, .int (iI b1)), (2, .int (iI 0)), (0, .ref h0), (1, .int (iI y))] dX8_encode_89 (by decide) rfl rfl ?_
          refine v_iload_n fx 1 dX8_encode_90 rfl rfl ?_
          refine v_if_eq fx 106 dX8_encode_91 (by decide) rfl (by omega) (fun h_153 => ?_) (fun h0 => absurd h0 (by omega))
          refine v_aload_n fx 2 dX8_encode_106 rfl rfl ?_
          refine v_sipush fx dX8_encode_107 (by decide +kernel) rfl ?_
          refine v_iload_n fx 3 dX8_encode_110 rfl rfl ?_
          refine v_imul fx (3000 * y) dX8_encode_111 (by rfl) rfl ?_
          refine v_iload_n fx 3 dX8_encode_112 rfl rfl ?_
          refine v_if_ne fx 120 dX8_encode_113 (by decide) rfl (by omega) (fun h_154 => ?_) (fun h_154 => ?_)
          ·
            refine v_sipush fx dX8_encode_120 (by decide +kernel) rfl ?_
            refine v_iload_n fx 3 dX8_encode_123 rfl rfl ?_
            refine v_iconst fx dX8_encode_124 rfl ?_
            refine v_isub fx (y - 1) dX8_encode_125 (by rfl) rfl ?_
            refine v_imul fx (3000 * (y - 1)) dX8_encode_126 (by rfl) rfl ?_
            refine v_callV (As := [.int (iI (3000 * y)), .int (iI (3000 * (y - 1)))]) (rest := []) fx [0, 1, 2, 3, 4, 5, 6, 7] [] [(h0, ob 8 [.ref xa, .ref xb, .ref xc, .ref xd, .ref xe, .ref xf, .ref xg, .int (iI 0), .int (iI 2), .int (iI vw), .ref xm, .ref xv, .int (iI vg), .ref xw, .int (iI b1), .int (iI 1), .ref xq, .int (iI ve), .int (iI vf), .int (iI vu), .int (iI vl), .ref xr, .ref xh, .ref xo, .ref xp, .int (iI vr), .int (iI va), .int (iI vt), .int (iI vm), .int (iI vd), .int (iI vx)]), (xw, aI g 72000 f1), (xv, aZ g 72000 fg), (xa, aI g 64 (lfT mW 64)), (xb, aI g 64 (lfT mB 64)), (xc, aI g 27 (lfT mWM 27)), (xd, aI g 27 (lfT mBM 27)), (xe, aI g 13 (lfT mBO 13))] [] 2 0 (c_X8_twoDimensions l g h0 xa xb xc xd xe xf xg xm xv xw xq xr xh xo xp 0 2 vw vg b1 1 ve vf vu vl vr va vt vm vd vx f1 fg (3000 * y) (3000 * (y - 1)) (by first | omega | decide | assumption) (by first | omega | decide | assumption) (by first | omega | decide | assumption) (by first | omega | decide | assumption) (by first | omega | decide | assumption)) dX8_encode_127 k1126 k1128 k27 k57 k1129 ykX8_twoDimensions rfl rfl rfl rfl rfl rfl rfl rfl (nl rfl) ⟨nl rfl, nl rfl⟩ ⟨(nl rfl), (nl rfl)⟩ rfl (fun v9 w9 hu => ?_)
            obtain ⟨b2_155, f2_156, rfl, rfl, u_157⟩ := hu
            refine v_is (wn := [(h0, ob 8 [.ref xa, .ref xb, .ref xc, .ref xd, .ref xe, .ref xf, .ref xg, .int (iI 0), .int (iI 2), .int (iI vw), .ref xm, .ref xv, .int (iI vg), .ref xw, .int (iI b2_155), .int (iI 1), .ref xq, .int (iI ve), .int (iI vf), .int (iI vu), .int (iI vl), .ref xr, .ref xh, .ref xo, .ref xp, .int (iI vr), .int (iI va), .int (iI vt), .int (iI vm), .int (iI vd), .int (iI vx)]), (xw, aI g 72000 f2_156), (xv, aZ g 72000 fg), (xa, aI g 64 (lfT mW 64)), (xb, aI g 64 (lfT mB 64)), (xc, aI g 27 (lfT mWM 27)), (xd, aI g 27 (lfT mBM 27)), (xe, aI g 13 (lfT mBO 13))]) (cn := 0) (sn := 0) (sn2 := []) rfl rfl rfl rfl ?_
            have L130 : ∀ (N : Nat) (b3 : Int) (f3 : Nat → Int32), (0 ≤ b3 ∧ b3 ≤ 21060 * (y + 1)) → ((b1 + vf - b3).toNat) < N → V p9 l e9 (rmD 5 0 0) s9 m9 ag9 bl9 mt9 c9 4 g A9 (MQ bl9 (cQ g (po_c_X8_encode g h0 xa xb xc xd xe xf xg xm xv xw xq xr xh xo xp vc 2 vw vg vb vi ve vf vu vl vr va vt vm vd vx f fg) A9) ag9 s9 0 0 A9) [(h0, ob 8 [.ref xa, .ref xb, .ref xc, .ref xd, .ref xe, .ref xf, .ref xg, .int (iI 0), .int (iI 2), .int (iI vw), .ref xm, .ref xv, .int (iI vg), .ref xw, .int (iI b3), .int (iI 1), .ref xq, .int (iI ve), .int (iI vf), .int (iI vu), .int (iI vl), .ref xr, .ref xh, .ref xo, .ref xp, .int (iI vr), .int (iI va), .int (iI vt), .int (iI vm), .int (iI vd), .int (iI vx)]), (xw, aI g 72000 f3), (xv, aZ g 72000 fg), (xa, aI g 64 (lfT mW 64)), (xb, aI g 64 (lfT mB 64)), (xc, aI g 27 (lfT mWM 27)), (xd, aI g 27 (lfT mBM 27)), (xe, aI g 13 (lfT mBO 13))] 0 0 [(0, .ref h0), (1, .int (iI y)), (3, .int (iI b1))] 130 [] := by
              intro N
              induction N with
              | zero => intro b3 f3 hi130_0 hN; exact absurd hN (Nat.not_lt_zero _)
              | succ N ihL130 =>
                intro b3 f3 hi130_0 hN130
                refine v_aload_n fx 0 dX8_encode_130 rfl rfl ?_
                refine v_get fx 0 8 inX8 k1004 dX8_encode_131 rfl rfl (by decide) rfl rfl rfl ?_
                refine v_iconst fx dX8_encode_134 rfl ?_
                refine v_icmp_ge fx 159 dX8_encode_135 (by decide) rfl (by omega) (by omega) (fun h_158 => ?_) (fun h0 => absurd h0 (by omega))
                refine v_iinc fx 1 (y + 1) [(1, .int (iI (y + 1))), (0, .ref h0), (3, .int (iI b1))] dX8_encode_159 rfl (by omega) (by decide) rfl rfl ?_
                refine v_goto fx 17 dX8_encode_162 (by decide) ?_
                refine v_lv [1, 0] [(0, .ref h0), (1, .int (iI (y + 1)))] rfl ?_
                exact ihL17 (y + 1) b3 f3 (by omega) (by omega) (by omega)
            refine v_lv [2, 3, 0] [(0, .ref h0), (1, .int (iI y)), (3, .int (iI b1))] rfl ?_
            exact L130 _ b2_155 f2_156 (by omega) (Nat.lt_succ_self _)
          ·
            refine v_iconst fx dX8_encode_116 rfl ?_
            refine v_goto fx 127 dX8_encode_117 (by decide) ?_
            refine v_callV (As := [.int (iI (3000 * y)), .int (iI (-1))]) (rest := []) fx [0, 1, 2, 3, 4, 5, 6, 7] [] [(h0, ob 8 [.ref xa, .ref xb, .ref xc, .ref xd, .ref xe, .ref xf, .ref xg, .int (iI 0), .int (iI 2), .int (iI vw), .ref xm, .ref xv, .int (iI vg), .ref xw, .int (iI b1), .int (iI 1), .ref xq, .int (iI ve), .int (iI vf), .int (iI vu), .int (iI vl), .ref xr, .ref xh, .ref xo, .ref xp, .int (iI vr), .int (iI va), .int (iI vt), .int (iI vm), .int (iI vd), .int (iI vx)]), (xw, aI g 72000 f1), (xv, aZ g 72000 fg), (xa, aI g 64 (lfT mW 64)), (xb, aI g 64 (lfT mB 64)), (xc, aI g 27 (lfT mWM 27)), (xd, aI g 27 (lfT mBM 27)), (xe, aI g 13 (lfT mBO 13))] [] 2 0 (c_X8_twoDimensions l g h0 xa xb xc xd xe xf xg xm xv xw xq xr xh xo xp 0 2 vw vg b1 1 ve vf vu vl vr va vt vm vd vx f1 fg (3000 * y) (-1) (by first | omega | decide | assumption) (by first | omega | decide | assumption) (by first | omega | decide | assumption) (by first | omega | decide | assumption) (by first | omega | decide | assumption)) dX8_encode_127 k1126 k1128 k27 k57 k1129 ykX8_twoDimensions rfl rfl rfl rfl rfl rfl rfl rfl (nl rfl) ⟨nl rfl, nl rfl⟩ ⟨(nl rfl), (nl rfl)⟩ rfl (fun v9 w9 hu => ?_)
            obtain ⟨b2_159, f2_160, rfl, rfl, u_161⟩ := hu
            refine v_is (wn := [(h0, ob 8 [.ref xa, .ref xb, .ref xc, .ref xd, .ref xe, .ref xf, .ref xg, .int (iI 0), .int (iI 2), .int (iI vw), .ref xm, .ref xv, .int (iI vg), .ref xw, .int (iI b2_159), .int (iI 1), .ref xq, .int (iI ve), .int (iI vf), .int (iI vu), .int (iI vl), .ref xr, .ref xh, .ref xo, .ref xp, .int (iI vr), .int (iI va), .int (iI vt), .int (iI vm), .int (iI vd), .int (iI vx)]), (xw, aI g 72000 f2_160), (xv, aZ g 72000 fg), (xa, aI g 64 (lfT mW 64)), (xb, aI g 64 (lfT mB 64)), (xc, aI g 27 (lfT mWM 27)), (xd, aI g 27 (lfT mBM 27)), (xe, aI g 13 (lfT mBO 13))]) (cn := 0) (sn := 0) (sn2 := []) rfl rfl rfl rfl ?_
            have L130 : ∀ (N : Nat) (b3 : Int) (f3 : Nat → Int32), (0 ≤ b3 ∧ b3 ≤ 21060 * (y + 1)) → ((b1 + vf - b3).toNat) < N → V p9 l e9 (rmD 5 0 0) s9 m9 ag9 bl9 mt9 c9 4 g A9 (MQ bl9 (cQ g (po_c_X8_encode g h0 xa xb xc xd xe xf xg xm xv xw xq xr xh xo xp vc 2 vw vg vb vi ve vf vu vl vr va vt vm vd vx f fg) A9) ag9 s9 0 0 A9) [(h0, ob 8 [.ref xa, .ref xb, .ref xc, .ref xd, .ref xe, .ref xf, .ref xg, .int (iI 0), .int (iI 2), .int (iI vw), .ref xm, .ref xv, .int (iI vg), .ref xw, .int (iI b3), .int (iI 1), .ref xq, .int (iI ve), .int (iI vf), .int (iI vu), .int (iI vl), .ref xr, .ref xh, .ref xo, .ref xp, .int (iI vr), .int (iI va), .int (iI vt), .int (iI vm), .int (iI vd), .int (iI vx)]), (xw, aI g 72000 f3), (xv, aZ g 72000 fg), (xa, aI g 64 (lfT mW 64)), (xb, aI g 64 (lfT mB 64)), (xc, aI g 27 (lfT mWM 27)), (xd, aI g 27 (lfT mBM 27)), (xe, aI g 13 (lfT mBO 13))] 0 0 [(0, .ref h0), (1, .int (iI y)), (3, .int (iI b1))] 130 [] := by
              intro N
              induction N with
              | zero => intro b3 f3 hi130_0 hN; exact absurd hN (Nat.not_lt_zero _)
              | succ N ihL130 =>
                intro b3 f3 hi130_0 hN130
                refine v_aload_n fx 0 dX8_encode_130 rfl rfl ?_
                refine v_get fx 0 8 inX8 k1004 dX8_encode_131 rfl rfl (by decide) rfl rfl rfl ?_
                refine v_iconst fx dX8_encode_134 rfl ?_
                refine v_icmp_ge fx 159 dX8_encode_135 (by decide) rfl (by omega) (by omega) (fun h_162 => ?_) (fun h0 => absurd h0 (by omega))
                refine v_iinc fx 1 (y + 1) [(1, .int (iI (y + 1))), (0, .ref h0), (3, .int (iI b1))] dX8_encode_159 rfl (by omega) (by decide) rfl rfl ?_
                refine v_goto fx 17 dX8_encode_162 (by decide) ?_
                refine v_lv [1, 0] [(0, .ref h0), (1, .int (iI (y + 1)))] rfl ?_
                exact ihL17 (y + 1) b3 f3 (by omega) (by omega) (by omega)
            refine v_lv [2, 3, 0] [(0, .ref h0), (1, .int (iI y)), (3, .int (iI b1))] rfl ?_
            exact L130 _ b2_159 f2_160 (by omega) (Nat.lt_succ_self _)
  refine v_lv [1, 0] [(0, .ref h0), (1, .int (iI 0))] rfl ?_
  exact L17 _ 0 0 f (by omega) (by omega) (Nat.lt_succ_self _)
theorem dX8_byteAt_0 : decode cX8_byteAt 0 = .ok (.aload_n 0, 1) := by decide +kernel
theorem dX8_byteAt_1 : decode cX8_byteAt 1 = .ok (.iconst 0, 1) := by decide +kernel
theorem dX8_byteAt_2 : decode cX8_byteAt 2 = .ok (.putfield 66, 3) := by decide +kernel
theorem dX8_byteAt_5 : decode cX8_byteAt 5 = .ok (.aload_n 0, 1) := by decide +kernel
theorem dX8_byteAt_6 : decode cX8_byteAt 6 = .ok (.getfield 108, 3) := by decide +kernel
theorem dX8_byteAt_9 : decode cX8_byteAt 9 = .ok (.ifCond .eq 30, 3) := by decide +kernel
theorem dX8_byteAt_12 : decode cX8_byteAt 12 = .ok (.iload_n 1, 1) := by decide +kernel
theorem dX8_byteAt_13 : decode cX8_byteAt 13 = .ok (.ifCond .lt 26, 3) := by decide +kernel
theorem dX8_byteAt_16 : decode cX8_byteAt 16 = .ok (.iload_n 1, 1) := by decide +kernel
theorem dX8_byteAt_17 : decode cX8_byteAt 17 = .ok (.aload_n 0, 1) := by decide +kernel
theorem dX8_byteAt_18 : decode cX8_byteAt 18 = .ok (.getfield 72, 3) := by decide +kernel
theorem dX8_byteAt_21 : decode cX8_byteAt 21 = .ok (.bipush 7, 2) := by decide +kernel
theorem dX8_byteAt_23 : decode cX8_byteAt 23 = .ok (.iadd, 1) := by decide +kernel
theorem dX8_byteAt_24 : decode cX8_byteAt 24 = .ok (.bipush 8, 2) := by decide +kernel
theorem dX8_byteAt_26 : decode cX8_byteAt 26 = .ok (.idiv, 1) := by decide +kernel
theorem dX8_byteAt_27 : decode cX8_byteAt 27 = .ok (.if_icmp .ge 12, 3) := by decide +kernel
theorem dX8_byteAt_30 : decode cX8_byteAt 30 = .ok (.aload_n 0, 1) := by decide +kernel
theorem dX8_byteAt_31 : decode cX8_byteAt 31 = .ok (.getfield 39, 3) := by decide +kernel
theorem dX8_byteAt_34 : decode cX8_byteAt 34 = .ok (.iload_n 1, 1) := by decide +kernel
theorem dX8_byteAt_35 : decode cX8_byteAt 35 = .ok (.iaload, 1) := by decide +kernel
theorem dX8_byteAt_36 : decode cX8_byteAt 36 = .ok (.goto 4, 3) := by decide +kernel
theorem dX8_byteAt_39 : decode cX8_byteAt 39 = .ok (.iconst (-1), 1) := by decide +kernel
theorem dX8_byteAt_40 : decode cX8_byteAt 40 = .ok (.ireturn, 1) := by decide +kernel
abbrev po_c_X8_byteAt (g : GG) (h0 : Nat) (xa : Nat) (xb : Nat) (xc : Nat) (xd : Nat) (xe : Nat) (xf : Nat) (xg : Nat) (xm : Nat) (xv : Nat) (xw : Nat) (xq : Nat) (xr : Nat) (xh : Nat) (xo : Nat) (xp : Nat) (vc : Int) (vk : Int) (vw : Int) (vg : Int) (vb : Int) (vi : Int) (ve : Int) (vf : Int) (vu : Int) (vl : Int) (vr : Int) (va : Int) (vt : Int) (vm : Int) (vd : Int) (vx : Int) (f : Nat → Int32) (x : Int) : Option Value → va_W → Prop := fun v8 w8 => ∃ q : Int32, v8 = some (.int q) ∧ w8 = [(h0, ob 8 [.ref xa, .ref xb, .ref xc, .ref xd, .ref xe, .ref xf, .ref xg, .int (iI 0), .int (iI vk), .int (iI vw), .ref xm, .ref xv, .int (iI vg), .ref xw, .int (iI vb), .int (iI vi), .ref xq, .int (iI ve), .int (iI vf), .int (iI vu), .int (iI vl), .ref xr, .ref xh, .ref xo, .ref xp, .int (iI vr), .int (iI va), .int (iI vt), .int (iI vm), .int (iI vd), .int (iI vx)]), (xw, aI g 72000 f)]
set_option maxHeartbeats 4000000 in
set_option maxRecDepth 100000 in
theorem c_X8_byteAt (l : Launch) (g : GG) (h0 : Nat) (xa : Nat) (xb : Nat) (xc : Nat) (xd : Nat) (xe : Nat) (xf : Nat) (xg : Nat) (xm : Nat) (xv : Nat) (xw : Nat) (xq : Nat) (xr : Nat) (xh : Nat) (xo : Nat) (xp : Nat) (vc : Int) (vk : Int) (vw : Int) (vg : Int) (vb : Int) (vi : Int) (ve : Int) (vf : Int) (vu : Int) (vl : Int) (vr : Int) (va : Int) (vt : Int) (vm : Int) (vd : Int) (vx : Int) (f : Nat → Int32) (x : Int) (hp0 : -2147483648 ≤ x ∧ x < 2147483648) (hp1 : 0 ≤ vi ∧ vi ≤ 1) (hp2 : 0 ≤ vb ∧ vb ≤ 507000) : Ct l g yX8_byteAt (wM yX8_byteAt cX8_byteAt 2 (some .int)) (rmD 0 0 0) [.ref h0, .int (iI x)] [(h0, ob 8 [.ref xa, .ref xb, .ref xc, .ref xd, .ref xe, .ref xf, .ref xg, .int (iI vc), .int (iI vk), .int (iI vw), .ref xm, .ref xv, .int (iI vg), .ref xw, .int (iI vb), .int (iI vi), .ref xq, .int (iI ve), .int (iI vf), .int (iI vu), .int (iI vl), .ref xr, .ref xh, .ref xo, .ref xp, .int (iI vr), .int (iI va), .int (iI vt), .int (iI vm), .int (iI vd), .int (iI vx)]), (xw, aI g 72000 f)] (po_c_X8_byteAt g h0 xa xb xc xd xe xf xg xm xv xw xq xr xh xo xp vc vk vw vg vb vi ve vf vu vl vr va vt vm vd vx f x) := by
  refine Ct_of (by decide +kernel) (Nat.le_of_ble_eq_true rfl) ?_
  intro p9 e9 s9 m9 ag9 bl9 mt9 c9 A9 fx hr hnm
  refine v_aload_n fx 0 dX8_byteAt_0 rfl rfl ?_
  refine v_iconst fx dX8_byteAt_1 rfl ?_
  refine v_put fx 0 7 [(h0, ob 8 [.ref xa, .ref xb, .ref xc, .ref xd, .ref xe, .ref xf, .ref xg, .int (iI 0), .int (iI vk), .int (iI vw), .ref xm, .ref xv, .int (iI vg), .ref xw, .int (iI vb), .int (iI vi), .ref xq, .int (iI ve), .int (iI vf), .int (iI vu), .int (iI vl), .ref xr, .ref xh, .ref xo, .ref xp, .int (iI vr), .int (iI va), .int (iI vt), .int (iI vm), .int (iI vd), .int (iI vx)]), (xw, aI g 72000 f)] inX8 tyX8_ok nmX8 k1003 dX8_byteAt_2 rfl rfl (by decide) rfl rfl rfl rfl (nl rfl) rfl rfl ?_
  refine v_aload_n fx 0 dX8_byteAt_5 rfl rfl ?_
  refine v_get fx 0 15 inX8 k1011 dX8_byteAt_6 rfl rfl (by decide) rfl rfl rfl ?_
  refine v_if_eq fx 39 dX8_byteAt_9 (by decide) rfl (by omega) (fun h_1 => ?_) (fun h_1 => ?_)
  ·
    refine v_iconst fx dX8_byteAt_39 rfl ?_
    exact v_iret fx [(h0, ob 8 [.ref xa, .ref xb, .ref xc, .ref xd, .ref xe, .ref xf, .ref xg, .int (iI 0), .int (iI vk), .int (iI vw), .ref xm, .ref xv, .int (iI vg), .ref xw, .int (iI vb), .int (iI vi), .ref xq, .int (iI ve), .int (iI vf), .int (iI vu), .int (iI vl), .ref xr, .ref xh, .ref xo, .ref xp, .int (iI vr), .int (iI va), .int (iI vt), .int (iI vm), .int (iI vd), .int (iI vx)]), (xw, aI g 72000 f)] [0, 1] hr dX8_byteAt_40 rfl rfl (nl rfl) (nl rfl) ⟨(iI (-1)), rfl, rfl⟩
  ·
    refine v_iload_n fx 1 dX8_byteAt_12 rfl rfl ?_
    refine v_if_lt fx 39 dX8_byteAt_13 (by decide) rfl (by omega) (fun h_2 => ?_) (fun h_2 => ?_)
    ·
      refine v_iconst fx dX8_byteAt_39 rfl ?_
      exact v_iret fx [(h0, ob 8 [.ref xa, .ref xb, .ref xc, .ref xd, .ref xe, .ref xf, .ref xg, .int (iI 0), .int (iI vk), .int (iI vw), .ref xm, .ref xv, .int (iI vg), .ref xw, .int (iI vb), .int (iI vi), .ref xq, .int (iI ve), .int (iI vf), .int (iI vu), .int (iI vl), .ref xr, .ref xh, .ref xo, .ref xp, .int (iI vr), .int (iI va), .int (iI vt), .int (iI vm), .int (iI vd), .int (iI vx)]), (xw, aI g 72000 f)] [0, 1] hr dX8_byteAt_40 rfl rfl (nl rfl) (nl rfl) ⟨(iI (-1)), rfl, rfl⟩
    ·
      refine v_iload_n fx 1 dX8_byteAt_16 rfl rfl ?_
      refine v_aload_n fx 0 dX8_byteAt_17 rfl rfl ?_
      refine v_get fx 0 14 inX8 k1010 dX8_byteAt_18 rfl rfl (by decide) rfl rfl rfl ?_
      refine v_bipush fx dX8_byteAt_21 (by decide +kernel) rfl ?_
      refine v_iadd fx (vb + 7) dX8_byteAt_23 (by rfl) rfl ?_
      refine v_bipush fx dX8_byteAt_24 (by decide +kernel) rfl ?_
      refine v_idiv fx (iI ((vb + 7) / 8)) dX8_byteAt_26 (by decide) (iI_div (by omega) 8 (by decide) (by decide)) rfl ?_
      refine v_icmp_ge fx 39 dX8_byteAt_27 (by decide) rfl (by omega) (by omega) (fun h_3 => ?_) (fun h_3 => ?_)
      ·
        refine v_iconst fx dX8_byteAt_39 rfl ?_
        exact v_iret fx [(h0, ob 8 [.ref xa, .ref xb, .ref xc, .ref xd, .ref xe, .ref xf, .ref xg, .int (iI 0), .int (iI vk), .int (iI vw), .ref xm, .ref xv, .int (iI vg), .ref xw, .int (iI vb), .int (iI vi), .ref xq, .int (iI ve), .int (iI vf), .int (iI vu), .int (iI vl), .ref xr, .ref xh, .ref xo, .ref xp, .int (iI vr), .int (iI va), .int (iI vt), .int (iI vm), .int (iI vd), .int (iI vx)]), (xw, aI g 72000 f)] [0, 1] hr dX8_byteAt_40 rfl rfl (nl rfl) (nl rfl) ⟨(iI (-1)), rfl, rfl⟩
      ·
        refine v_aload_n fx 0 dX8_byteAt_30 rfl rfl ?_
        refine v_get fx 0 13 inX8 k1009 dX8_byteAt_31 rfl rfl (by decide) rfl rfl rfl ?_
        refine v_iload_n fx 1 dX8_byteAt_34 rfl rfl ?_
        refine v_iald fx 1 dX8_byteAt_35 rfl (by omega) (by omega) rfl ?_
        refine v_goto fx 40 dX8_byteAt_36 (by decide) ?_
        exact v_iret fx [(h0, ob 8 [.ref xa, .ref xb, .ref xc, .ref xd, .ref xe, .ref xf, .ref xg, .int (iI 0), .int (iI vk), .int (iI vw), .ref xm, .ref xv, .int (iI vg), .ref xw, .int (iI vb), .int (iI vi), .ref xq, .int (iI ve), .int (iI vf), .int (iI vu), .int (iI vl), .ref xr, .ref xh, .ref xo, .ref xp, .int (iI vr), .int (iI va), .int (iI vt), .int (iI vm), .int (iI vd), .int (iI vx)]), (xw, aI g 72000 f)] [0, 1] hr dX8_byteAt_40 rfl rfl (nl rfl) (nl rfl) ⟨(f (x).toNat), rfl, rfl⟩
theorem dX8_feed_0 : decode cX8_feed 0 = .ok (.aload_n 0, 1) := by decide +kernel
theorem dX8_feed_1 : decode cX8_feed 1 = .ok (.iconst 0, 1) := by decide +kernel
theorem dX8_feed_2 : decode cX8_feed 2 = .ok (.putfield 66, 3) := by decide +kernel
theorem dX8_feed_5 : decode cX8_feed 5 = .ok (.aload_n 0, 1) := by decide +kernel
theorem dX8_feed_6 : decode cX8_feed 6 = .ok (.getfield 123, 3) := by decide +kernel
theorem dX8_feed_9 : decode cX8_feed 9 = .ok (.sipush 2000, 3) := by decide +kernel
theorem dX8_feed_12 : decode cX8_feed 12 = .ok (.if_icmp .ne 5, 3) := by decide +kernel
theorem dX8_feed_15 : decode cX8_feed 15 = .ok (.iconst 0, 1) := by decide +kernel
theorem dX8_feed_16 : decode cX8_feed 16 = .ok (.ireturn, 1) := by decide +kernel
theorem dX8_feed_17 : decode cX8_feed 17 = .ok (.aload_n 0, 1) := by decide +kernel
theorem dX8_feed_18 : decode cX8_feed 18 = .ok (.getfield 42, 3) := by decide +kernel
theorem dX8_feed_21 : decode cX8_feed 21 = .ok (.aload_n 0, 1) := by decide +kernel
theorem dX8_feed_22 : decode cX8_feed 22 = .ok (.getfield 123, 3) := by decide +kernel
theorem dX8_feed_25 : decode cX8_feed 25 = .ok (.iload_n 1, 1) := by decide +kernel
theorem dX8_feed_26 : decode cX8_feed 26 = .ok (.sipush 255, 3) := by decide +kernel
theorem dX8_feed_29 : decode cX8_feed 29 = .ok (.iand, 1) := by decide +kernel
theorem dX8_feed_30 : decode cX8_feed 30 = .ok (.iastore, 1) := by decide +kernel
theorem dX8_feed_31 : decode cX8_feed 31 = .ok (.aload_n 0, 1) := by decide +kernel
theorem dX8_feed_32 : decode cX8_feed 32 = .ok (.dup, 1) := by decide +kernel
theorem dX8_feed_33 : decode cX8_feed 33 = .ok (.getfield 123, 3) := by decide +kernel
theorem dX8_feed_36 : decode cX8_feed 36 = .ok (.iconst 1, 1) := by decide +kernel
theorem dX8_feed_37 : decode cX8_feed 37 = .ok (.iadd, 1) := by decide +kernel
theorem dX8_feed_38 : decode cX8_feed 38 = .ok (.putfield 123, 3) := by decide +kernel
theorem dX8_feed_41 : decode cX8_feed 41 = .ok (.iconst 1, 1) := by decide +kernel
theorem dX8_feed_42 : decode cX8_feed 42 = .ok (.ireturn, 1) := by decide +kernel
abbrev po_c_X8_feed (g : GG) (h0 : Nat) (xa : Nat) (xb : Nat) (xc : Nat) (xd : Nat) (xe : Nat) (xf : Nat) (xg : Nat) (xm : Nat) (xv : Nat) (xw : Nat) (xq : Nat) (xr : Nat) (xh : Nat) (xo : Nat) (xp : Nat) (vc : Int) (vk : Int) (vw : Int) (vg : Int) (vb : Int) (vi : Int) (ve : Int) (vf : Int) (vu : Int) (vl : Int) (vr : Int) (va : Int) (vt : Int) (vm : Int) (vd : Int) (vx : Int) (f : Nat → Int32) (x : Int32) : Option Value → va_W → Prop := fun v8 w8 => ∃ r : Int, ∃ e2 : Int, ∃ f2 : Nat → Int32, v8 = some (.int (iI r)) ∧ w8 = [(h0, ob 8 [.ref xa, .ref xb, .ref xc, .ref xd, .ref xe, .ref xf, .ref xg, .int (iI 0), .int (iI vk), .int (iI vw), .ref xm, .ref xv, .int (iI vg), .ref xw, .int (iI vb), .int (iI vi), .ref xq, .int (iI e2), .int (iI vf), .int (iI vu), .int (iI vl), .ref xr, .ref xh, .ref xo, .ref xp, .int (iI vr), .int (iI va), .int (iI vt), .int (iI vm), .int (iI vd), .int (iI vx)]), (xq, aI g 2000 f2)] ∧ ((r = 1 ∧ ve < 2000 ∧ e2 = ve + 1) ∨ (r = 0 ∧ ve = 2000 ∧ e2 = ve))
set_option maxHeartbeats 4000000 in
set_option maxRecDepth 100000 in
theorem c_X8_feed (l : Launch) (g : GG) (h0 : Nat) (xa : Nat) (xb : Nat) (xc : Nat) (xd : Nat) (xe : Nat) (xf : Nat) (xg : Nat) (xm : Nat) (xv : Nat) (xw : Nat) (xq : Nat) (xr : Nat) (xh : Nat) (xo : Nat) (xp : Nat) (vc : Int) (vk : Int) (vw : Int) (vg : Int) (vb : Int) (vi : Int) (ve : Int) (vf : Int) (vu : Int) (vl : Int) (vr : Int) (va : Int) (vt : Int) (vm : Int) (vd : Int) (vx : Int) (f : Nat → Int32) (x : Int32) (hp0 : 0 ≤ ve ∧ ve ≤ 2000) : Ct l g yX8_feed (wM yX8_feed cX8_feed 2 (some .boolean)) (rmD 0 0 0) [.ref h0, .int x] [(h0, ob 8 [.ref xa, .ref xb, .ref xc, .ref xd, .ref xe, .ref xf, .ref xg, .int (iI vc), .int (iI vk), .int (iI vw), .ref xm, .ref xv, .int (iI vg), .ref xw, .int (iI vb), .int (iI vi), .ref xq, .int (iI ve), .int (iI vf), .int (iI vu), .int (iI vl), .ref xr, .ref xh, .ref xo, .ref xp, .int (iI vr), .int (iI va), .int (iI vt), .int (iI vm), .int (iI vd), .int (iI vx)]), (xq, aI g 2000 f)] (po_c_X8_feed g h0 xa xb xc xd xe xf xg xm xv xw xq xr xh xo xp vc vk vw vg vb vi ve vf vu vl vr va vt vm vd vx f x) := by
  refine Ct_of (by decide +kernel) (Nat.le_of_ble_eq_true rfl) ?_
  intro p9 e9 s9 m9 ag9 bl9 mt9 c9 A9 fx hr hnm
  refine v_aload_n fx 0 dX8_feed_0 rfl rfl ?_
  refine v_iconst fx dX8_feed_1 rfl ?_
  refine v_put fx 0 7 [(h0, ob 8 [.ref xa, .ref xb, .ref xc, .ref xd, .ref xe, .ref xf, .ref xg, .int (iI 0), .int (iI vk), .int (iI vw), .ref xm, .ref xv, .int (iI vg), .ref xw, .int (iI vb), .int (iI vi), .ref xq, .int (iI ve), .int (iI vf), .int (iI vu), .int (iI vl), .ref xr, .ref xh, .ref xo, .ref xp, .int (iI vr), .int (iI va), .int (iI vt), .int (iI vm), .int (iI vd), .int (iI vx)]), (xq, aI g 2000 f)] inX8 tyX8_ok nmX8 k1003 dX8_feed_2 rfl rfl (by decide) rfl rfl rfl rfl (nl rfl) rfl rfl ?_
  refine v_aload_n fx 0 dX8_feed_5 rfl rfl ?_
  refine v_get fx 0 17 inX8 k1013 dX8_feed_6 rfl rfl (by decide) rfl rfl rfl ?_
  refine v_sipush fx dX8_feed_9 (by decide +kernel) rfl ?_
  refine v_icmp_ne fx 17 dX8_feed_12 (by decide) rfl (by omega) (by omega) (fun h_1 => ?_) (fun h_1 => ?_)
  ·
    refine v_aload_n fx 0 dX8_feed_17 rfl rfl ?_
    refine v_get fx 0 16 inX8 k1012 dX8_feed_18 rfl rfl (by decide) rfl rfl rfl ?_
    refine v_aload_n fx 0 dX8_feed_21 rfl rfl ?_
    refine v_get fx 0 17 inX8 k1013 dX8_feed_22 rfl rfl (by decide) rfl rfl rfl ?_
    refine v_iload_n fx 1 dX8_feed_25 rfl rfl ?_
    refine v_sipush fx dX8_feed_26 (by decide +kernel) rfl ?_
    obtain ⟨t_2, et_2⟩ : ∃ x9 : Int32, x &&& (iI 255) = x9 := ⟨_, rfl⟩
    refine v_iand fx t_2 dX8_feed_29 et_2 rfl ?_
    obtain ⟨f_3, ef_3⟩ : ∃ f9 : Nat → Int32, upd f (ve).toNat t_2 = f9 := ⟨_, rfl⟩
    refine v_iast fx 1 f_3 [(h0, ob 8 [.ref xa, .ref xb, .ref xc, .ref xd, .ref xe, .ref xf, .ref xg, .int (iI 0), .int (iI vk), .int (iI vw), .ref xm, .ref xv, .int (iI vg), .ref xw, .int (iI vb), .int (iI vi), .ref xq, .int (iI ve), .int (iI vf), .int (iI vu), .int (iI vl), .ref xr, .ref xh, .ref xo, .ref xp, .int (iI vr), .int (iI va), .int (iI vt), .int (iI vm), .int (iI vd), .int (iI vx)]), (xq, aI g 2000 f_3)] dX8_feed_30 rfl (by omega) (by omega) ef_3 rfl rfl ?_
    refine v_aload_n fx 0 dX8_feed_31 rfl rfl ?_
    refine v_dup fx dX8_feed_32 rfl rfl ?_
    refine v_get fx 0 17 inX8 k1013 dX8_feed_33 rfl rfl (by decide) rfl rfl rfl ?_
    refine v_iconst fx dX8_feed_36 rfl ?_
    refine v_iadd fx (ve + 1) dX8_feed_37 (by rfl) rfl ?_
    refine v_put fx 0 17 [(h0, ob 8 [.ref xa, .ref xb, .ref xc, .ref xd, .ref xe, .ref xf, .ref xg, .int (iI 0), .int (iI vk), .int (iI vw), .ref xm, .ref xv, .int (iI vg), .ref xw, .int (iI vb), .int (iI vi), .ref xq, .int (iI (ve + 1)), .int (iI vf), .int (iI vu), .int (iI vl), .ref xr, .ref xh, .ref xo, .ref xp, .int (iI vr), .int (iI va), .int (iI vt), .int (iI vm), .int (iI vd), .int (iI vx)]), (xq, aI g 2000 f_3)] inX8 tyX8_ok nmX8 k1013 dX8_feed_38 rfl rfl (by decide) rfl rfl rfl rfl (nl rfl) rfl rfl ?_
    refine v_iconst fx dX8_feed_41 rfl ?_
    exact v_zret fx [(h0, ob 8 [.ref xa, .ref xb, .ref xc, .ref xd, .ref xe, .ref xf, .ref xg, .int (iI 0), .int (iI vk), .int (iI vw), .ref xm, .ref xv, .int (iI vg), .ref xw, .int (iI vb), .int (iI vi), .ref xq, .int (iI (ve + 1)), .int (iI vf), .int (iI vu), .int (iI vl), .ref xr, .ref xh, .ref xo, .ref xp, .int (iI vr), .int (iI va), .int (iI vt), .int (iI vm), .int (iI vd), .int (iI vx)]), (xq, aI g 2000 f_3)] [0, 1] hr dX8_feed_42 (by first | rfl | exact nar_z _ (by omega)) rfl rfl (nl rfl) (nl rfl) ⟨1, (ve + 1), f_3, rfl, rfl, (by first | omega | rfl | assumption)⟩
  ·
    refine v_iconst fx dX8_feed_15 rfl ?_
    exact v_zret fx [(h0, ob 8 [.ref xa, .ref xb, .ref xc, .ref xd, .ref xe, .ref xf, .ref xg, .int (iI 0), .int (iI vk), .int (iI vw), .ref xm, .ref xv, .int (iI vg), .ref xw, .int (iI vb), .int (iI vi), .ref xq, .int (iI ve), .int (iI vf), .int (iI vu), .int (iI vl), .ref xr, .ref xh, .ref xo, .ref xp, .int (iI vr), .int (iI va), .int (iI vt), .int (iI vm), .int (iI vd), .int (iI vx)]), (xq, aI g 2000 f)] [0, 1] hr dX8_feed_16 (by first | rfl | exact nar_z _ (by omega)) rfl rfl (nl rfl) (nl rfl) ⟨0, ve, f, rfl, rfl, (by first | omega | rfl | assumption)⟩
theorem dX8_fill_0 : decode cX8_fill 0 = .ok (.aload_n 0, 1) := by decide +kernel
theorem dX8_fill_1 : decode cX8_fill 1 = .ok (.iconst 0, 1) := by decide +kernel
theorem dX8_fill_2 : decode cX8_fill 2 = .ok (.putfield 66, 3) := by decide +kernel
theorem dX8_fill_5 : decode cX8_fill 5 = .ok (.iload_n 1, 1) := by decide +kernel
theorem dX8_fill_6 : decode cX8_fill 6 = .ok (.ifCond .lt 10, 3) := by decide +kernel
theorem dX8_fill_9 : decode cX8_fill 9 = .ok (.iload_n 1, 1) := by decide +kernel
theorem dX8_fill_10 : decode cX8_fill 10 = .ok (.sipush 4000, 3) := by decide +kernel
theorem dX8_fill_13 : decode cX8_fill 13 = .ok (.if_icmp .le 5, 3) := by decide +kernel
theorem dX8_fill_16 : decode cX8_fill 16 = .ok (.iconst 0, 1) := by decide +kernel
theorem dX8_fill_17 : decode cX8_fill 17 = .ok (.ireturn, 1) := by decide +kernel
theorem dX8_fill_18 : decode cX8_fill 18 = .ok (.aload_n 0, 1) := by decide +kernel
theorem dX8_fill_19 : decode cX8_fill 19 = .ok (.iload_n 1, 1) := by decide +kernel
theorem dX8_fill_20 : decode cX8_fill 20 = .ok (.putfield 120, 3) := by decide +kernel
theorem dX8_fill_23 : decode cX8_fill 23 = .ok (.iconst 1, 1) := by decide +kernel
theorem dX8_fill_24 : decode cX8_fill 24 = .ok (.ireturn, 1) := by decide +kernel
abbrev po_c_X8_fill (g : GG) (h0 : Nat) (xa : Nat) (xb : Nat) (xc : Nat) (xd : Nat) (xe : Nat) (xf : Nat) (xg : Nat) (xm : Nat) (xv : Nat) (xw : Nat) (xq : Nat) (xr : Nat) (xh : Nat) (xo : Nat) (xp : Nat) (vc : Int) (vk : Int) (vw : Int) (vg : Int) (vb : Int) (vi : Int) (ve : Int) (vf : Int) (vu : Int) (vl : Int) (vr : Int) (va : Int) (vt : Int) (vm : Int) (vd : Int) (vx : Int) (x : Int) : Option Value → va_W → Prop := fun v8 w8 => ∃ r : Int, ∃ q2 : Int, v8 = some (.int (iI r)) ∧ w8 = [(h0, ob 8 [.ref xa, .ref xb, .ref xc, .ref xd, .ref xe, .ref xf, .ref xg, .int (iI 0), .int (iI vk), .int (iI vw), .ref xm, .ref xv, .int (iI vg), .ref xw, .int (iI vb), .int (iI vi), .ref xq, .int (iI ve), .int (iI q2), .int (iI vu), .int (iI vl), .ref xr, .ref xh, .ref xo, .ref xp, .int (iI vr), .int (iI va), .int (iI vt), .int (iI vm), .int (iI vd), .int (iI vx)])] ∧ ((r = 1 ∧ 0 ≤ x ∧ x ≤ 4000 ∧ q2 = x) ∨ (r = 0 ∧ (x < 0 ∨ 4000 < x) ∧ q2 = vf))
set_option maxHeartbeats 4000000 in
set_option maxRecDepth 100000 in
theorem c_X8_fill (l : Launch) (g : GG) (h0 : Nat) (xa : Nat) (xb : Nat) (xc : Nat) (xd : Nat) (xe : Nat) (xf : Nat) (xg : Nat) (xm : Nat) (xv : Nat) (xw : Nat) (xq : Nat) (xr : Nat) (xh : Nat) (xo : Nat) (xp : Nat) (vc : Int) (vk : Int) (vw : Int) (vg : Int) (vb : Int) (vi : Int) (ve : Int) (vf : Int) (vu : Int) (vl : Int) (vr : Int) (va : Int) (vt : Int) (vm : Int) (vd : Int) (vx : Int) (x : Int) (hp0 : -2147483648 ≤ x ∧ x < 2147483648) : Ct l g yX8_fill (wM yX8_fill cX8_fill 2 (some .boolean)) (rmD 0 0 0) [.ref h0, .int (iI x)] [(h0, ob 8 [.ref xa, .ref xb, .ref xc, .ref xd, .ref xe, .ref xf, .ref xg, .int (iI vc), .int (iI vk), .int (iI vw), .ref xm, .ref xv, .int (iI vg), .ref xw, .int (iI vb), .int (iI vi), .ref xq, .int (iI ve), .int (iI vf), .int (iI vu), .int (iI vl), .ref xr, .ref xh, .ref xo, .ref xp, .int (iI vr), .int (iI va), .int (iI vt), .int (iI vm), .int (iI vd), .int (iI vx)])] (po_c_X8_fill g h0 xa xb xc xd xe xf xg xm xv xw xq xr xh xo xp vc vk vw vg vb vi ve vf vu vl vr va vt vm vd vx x) := by
  refine Ct_of (by decide +kernel) (Nat.le_of_ble_eq_true rfl) ?_
  intro p9 e9 s9 m9 ag9 bl9 mt9 c9 A9 fx hr hnm
  refine v_aload_n fx 0 dX8_fill_0 rfl rfl ?_
  refine v_iconst fx dX8_fill_1 rfl ?_
  refine v_put fx 0 7 [(h0, ob 8 [.ref xa, .ref xb, .ref xc, .ref xd, .ref xe, .ref xf, .ref xg, .int (iI 0), .int (iI vk), .int (iI vw), .ref xm, .ref xv, .int (iI vg), .ref xw, .int (iI vb), .int (iI vi), .ref xq, .int (iI ve), .int (iI vf), .int (iI vu), .int (iI vl), .ref xr, .ref xh, .ref xo, .ref xp, .int (iI vr), .int (iI va), .int (iI vt), .int (iI vm), .int (iI vd), .int (iI vx)])] inX8 tyX8_ok nmX8 k1003 dX8_fill_2 rfl rfl (by decide) rfl rfl rfl rfl (nl rfl) rfl rfl ?_
  refine v_iload_n fx 1 dX8_fill_5 rfl rfl ?_
  refine v_if_lt fx 16 dX8_fill_6 (by decide) rfl (by omega) (fun h_1 => ?_) (fun h_1 => ?_)
  ·
    refine v_iconst fx dX8_fill_16 rfl ?_
    exact v_zret fx [(h0, ob 8 [.ref xa, .ref xb, .ref xc, .ref xd, .ref xe, .ref xf, .ref xg, .int (iI 0), .int (iI vk), .int (iI vw), .ref xm, .ref xv, .int (iI vg), .ref xw, .int (iI vb), .int (iI vi), .ref xq, .int (iI ve), .int (iI vf), .int (iI vu), .int (iI vl), .ref xr, .ref xh, .ref xo, .ref xp, .int (iI vr), .int (iI va), .int (iI vt), .int (iI vm), .int (iI vd), .int (iI vx)])] [0] hr dX8_fill_17 (by first | rfl | exact nar_z _ (by omega)) rfl rfl (nl rfl) (nl rfl) ⟨0, vf, rfl, rfl, (by first | omega | rfl | assumption)⟩
  ·
    refine v_iload_n fx 1 dX8_fill_9 rfl rfl ?_
    refine v_sipush fx dX8_fill_10 (by decide +kernel) rfl ?_
    refine v_icmp_le fx 18 dX8_fill_13 (by decide) rfl (by omega) (by omega) (fun h_2 => ?_) (fun h_2 => ?_)
    ·
      refine v_aload_n fx 0 dX8_fill_18 rfl rfl ?_
      refine v_iload_n fx 1 dX8_fill_19 rfl rfl ?_
      refine v_put fx 0 18 [(h0, ob 8 [.ref xa, .ref xb, .ref xc, .ref xd, .ref xe, .ref xf, .ref xg, .int (iI 0), .int (iI vk), .int (iI vw), .ref xm, .ref xv, .int (iI vg), .ref xw, .int (iI vb), .int (iI vi), .ref xq, .int (iI ve), .int (iI x), .int (iI vu), .int (iI vl), .ref xr, .ref xh, .ref xo, .ref xp, .int (iI vr), .int (iI va), .int (iI vt), .int (iI vm), .int (iI vd), .int (iI vx)])] inX8 tyX8_ok nmX8 k1014 dX8_fill_20 rfl rfl (by decide) rfl rfl rfl rfl (nl rfl) rfl rfl ?_
      refine v_iconst fx dX8_fill_23 rfl ?_
      exact v_zret fx [(h0, ob 8 [.ref xa, .ref xb, .ref xc, .ref xd, .ref xe, .ref xf, .ref xg, .int (iI 0), .int (iI vk), .int (iI vw), .ref xm, .ref xv, .int (iI vg), .ref xw, .int (iI vb), .int (iI vi), .ref xq, .int (iI ve), .int (iI x), .int (iI vu), .int (iI vl), .ref xr, .ref xh, .ref xo, .ref xp, .int (iI vr), .int (iI va), .int (iI vt), .int (iI vm), .int (iI vd), .int (iI vx)])] [0] hr dX8_fill_24 (by first | rfl | exact nar_z _ (by omega)) rfl rfl (nl rfl) (nl rfl) ⟨1, x, rfl, rfl, (by first | omega | rfl | assumption)⟩
    ·
      refine v_iconst fx dX8_fill_16 rfl ?_
      exact v_zret fx [(h0, ob 8 [.ref xa, .ref xb, .ref xc, .ref xd, .ref xe, .ref xf, .ref xg, .int (iI 0), .int (iI vk), .int (iI vw), .ref xm, .ref xv, .int (iI vg), .ref xw, .int (iI vb), .int (iI vi), .ref xq, .int (iI ve), .int (iI vf), .int (iI vu), .int (iI vl), .ref xr, .ref xh, .ref xo, .ref xp, .int (iI vr), .int (iI va), .int (iI vt), .int (iI vm), .int (iI vd), .int (iI vx)])] [0] hr dX8_fill_17 (by first | rfl | exact nar_z _ (by omega)) rfl rfl (nl rfl) (nl rfl) ⟨0, vf, rfl, rfl, (by first | omega | rfl | assumption)⟩
theorem dX8_repair_0 : decode cX8_repair 0 = .ok (.aload_n 0, 1) := by decide +kernel
theorem dX8_repair_1 : decode cX8_repair 1 = .ok (.iconst 0, 1) := by decide +kernel
theorem dX8_repair_2 : decode cX8_repair 2 = .ok (.putfield 66, 3) := by decide +kernel
theorem dX8_repair_5 : decode cX8_repair 5 = .ok (.iload_n 1, 1) := by decide +kernel
theorem dX8_repair_6 : decode cX8_repair 6 = .ok (.ifCond .lt 8, 3) := by decide +kernel
theorem dX8_repair_9 : decode cX8_repair 9 = .ok (.iload_n 1, 1) := by decide +kernel
theorem dX8_repair_10 : decode cX8_repair 10 = .ok (.iconst 1, 1) := by decide +kernel
theorem dX8_repair_11 : decode cX8_repair 11 = .ok (.if_icmp .le 5, 3) := by decide +kernel
theorem dX8_repair_14 : decode cX8_repair 14 = .ok (.iconst 0, 1) := by decide +kernel
theorem dX8_repair_15 : decode cX8_repair 15 = .ok (.ireturn, 1) := by decide +kernel
theorem dX8_repair_16 : decode cX8_repair 16 = .ok (.aload_n 0, 1) := by decide +kernel
theorem dX8_repair_17 : decode cX8_repair 17 = .ok (.iload_n 1, 1) := by decide +kernel
theorem dX8_repair_18 : decode cX8_repair 18 = .ok (.putfield 171, 3) := by decide +kernel
theorem dX8_repair_21 : decode cX8_repair 21 = .ok (.iconst 1, 1) := by decide +kernel
theorem dX8_repair_22 : decode cX8_repair 22 = .ok (.ireturn, 1) := by decide +kernel
abbrev po_c_X8_repair (g : GG) (h0 : Nat) (xa : Nat) (xb : Nat) (xc : Nat) (xd : Nat) (xe : Nat) (xf : Nat) (xg : Nat) (xm : Nat) (xv : Nat) (xw : Nat) (xq : Nat) (xr : Nat) (xh : Nat) (xo : Nat) (xp : Nat) (vc : Int) (vk : Int) (vw : Int) (vg : Int) (vb : Int) (vi : Int) (ve : Int) (vf : Int) (vu : Int) (vl : Int) (vr : Int) (va : Int) (vt : Int) (vm : Int) (vd : Int) (vx : Int) (x : Int) : Option Value → va_W → Prop := fun v8 w8 => ∃ r : Int, ∃ q2 : Int, v8 = some (.int (iI r)) ∧ w8 = [(h0, ob 8 [.ref xa, .ref xb, .ref xc, .ref xd, .ref xe, .ref xf, .ref xg, .int (iI 0), .int (iI vk), .int (iI vw), .ref xm, .ref xv, .int (iI vg), .ref xw, .int (iI vb), .int (iI vi), .ref xq, .int (iI ve), .int (iI vf), .int (iI q2), .int (iI vl), .ref xr, .ref xh, .ref xo, .ref xp, .int (iI vr), .int (iI va), .int (iI vt), .int (iI vm), .int (iI vd), .int (iI vx)])] ∧ ((r = 1 ∧ 0 ≤ x ∧ x ≤ 1 ∧ q2 = x) ∨ (r = 0 ∧ (x < 0 ∨ 1 < x) ∧ q2 = vu))
set_option maxHeartbeats 4000000 in
set_option maxRecDepth 100000 in
theorem c_X8_repair (l : Launch) (g : GG) (h0 : Nat) (xa : Nat) (xb : Nat) (xc : Nat) (xd : Nat) (xe : Nat) (xf : Nat) (xg : Nat) (xm : Nat) (xv : Nat) (xw : Nat) (xq : Nat) (xr : Nat) (xh : Nat) (xo : Nat) (xp : Nat) (vc : Int) (vk : Int) (vw : Int) (vg : Int) (vb : Int) (vi : Int) (ve : Int) (vf : Int) (vu : Int) (vl : Int) (vr : Int) (va : Int) (vt : Int) (vm : Int) (vd : Int) (vx : Int) (x : Int) (hp0 : -2147483648 ≤ x ∧ x < 2147483648) : Ct l g yX8_repair (wM yX8_repair cX8_repair 2 (some .boolean)) (rmD 0 0 0) [.ref h0, .int (iI x)] [(h0, ob 8 [.ref xa, .ref xb, .ref xc, .ref xd, .ref xe, .ref xf, .ref xg, .int (iI vc), .int (iI vk), .int (iI vw), .ref xm, .ref xv, .int (iI vg), .ref xw, .int (iI vb), .int (iI vi), .ref xq, .int (iI ve), .int (iI vf), .int (iI vu), .int (iI vl), .ref xr, .ref xh, .ref xo, .ref xp, .int (iI vr), .int (iI va), .int (iI vt), .int (iI vm), .int (iI vd), .int (iI vx)])] (po_c_X8_repair g h0 xa xb xc xd xe xf xg xm xv xw xq xr xh xo xp vc vk vw vg vb vi ve vf vu vl vr va vt vm vd vx x) := by
  refine Ct_of (by decide +kernel) (Nat.le_of_ble_eq_true rfl) ?_
  intro p9 e9 s9 m9 ag9 bl9 mt9 c9 A9 fx hr hnm
  refine v_aload_n fx 0 dX8_repair_0 rfl rfl ?_
  refine v_iconst fx dX8_repair_1 rfl ?_
  refine v_put fx 0 7 [(h0, ob 8 [.ref xa, .ref xb, .ref xc, .ref xd, .ref xe, .ref xf, .ref xg, .int (iI 0), .int (iI vk), .int (iI vw), .ref xm, .ref xv, .int (iI vg), .ref xw, .int (iI vb), .int (iI vi), .ref xq, .int (iI ve), .int (iI vf), .int (iI vu), .int (iI vl), .ref xr, .ref xh, .ref xo, .ref xp, .int (iI vr), .int (iI va), .int (iI vt), .int (iI vm), .int (iI vd), .int (iI vx)])] inX8 tyX8_ok nmX8 k1003 dX8_repair_2 rfl rfl (by decide) rfl rfl rfl rfl (nl rfl) rfl rfl ?_
  refine v_iload_n fx 1 dX8_repair_5 rfl rfl ?_
  refine v_if_lt fx 14 dX8_repair_6 (by decide) rfl (by omega) (fun h_1 => ?_) (fun h_1 => ?_)
  ·
    refine v_iconst fx dX8_repair_14 rfl ?_
    exact v_zret fx [(h0, ob 8 [.ref xa, .ref xb, .ref xc, .ref xd, .ref xe, .ref xf, .ref xg, .int (iI 0), .int (iI vk), .int (iI vw), .ref xm, .ref xv, .int (iI vg), .ref xw, .int (iI vb), .int (iI vi), .ref xq, .int (iI ve), .int (iI vf), .int (iI vu), .int (iI vl), .ref xr, .ref xh, .ref xo, .ref xp, .int (iI vr), .int (iI va), .int (iI vt), .int (iI vm), .int (iI vd), .int (iI vx)])] [0] hr dX8_repair_15 (by first | rfl | exact nar_z _ (by omega)) rfl rfl (nl rfl) (nl rfl) ⟨0, vu, rfl, rfl, (by first | omega | rfl | assumption)⟩
  ·
    refine v_iload_n fx 1 dX8_repair_9 rfl rfl ?_
    refine v_iconst fx dX8_repair_10 rfl ?_
    refine v_icmp_le fx 16 dX8_repair_11 (by decide) rfl (by omega) (by omega) (fun h_2 => ?_) (fun h_2 => ?_)
    ·
      refine v_aload_n fx 0 dX8_repair_16 rfl rfl ?_
      refine v_iload_n fx 1 dX8_repair_17 rfl rfl ?_
      refine v_put fx 0 19 [(h0, ob 8 [.ref xa, .ref xb, .ref xc, .ref xd, .ref xe, .ref xf, .ref xg, .int (iI 0), .int (iI vk), .int (iI vw), .ref xm, .ref xv, .int (iI vg), .ref xw, .int (iI vb), .int (iI vi), .ref xq, .int (iI ve), .int (iI vf), .int (iI x), .int (iI vl), .ref xr, .ref xh, .ref xo, .ref xp, .int (iI vr), .int (iI va), .int (iI vt), .int (iI vm), .int (iI vd), .int (iI vx)])] inX8 tyX8_ok nmX8 k1015 dX8_repair_18 rfl rfl (by decide) rfl rfl rfl rfl (nl rfl) rfl rfl ?_
      refine v_iconst fx dX8_repair_21 rfl ?_
      exact v_zret fx [(h0, ob 8 [.ref xa, .ref xb, .ref xc, .ref xd, .ref xe, .ref xf, .ref xg, .int (iI 0), .int (iI vk), .int (iI vw), .ref xm, .ref xv, .int (iI vg), .ref xw, .int (iI vb), .int (iI vi), .ref xq, .int (iI ve), .int (iI vf), .int (iI x), .int (iI vl), .ref xr, .ref xh, .ref xo, .ref xp, .int (iI vr), .int (iI va), .int (iI vt), .int (iI vm), .int (iI vd), .int (iI vx)])] [0] hr dX8_repair_22 (by first | rfl | exact nar_z _ (by omega)) rfl rfl (nl rfl) (nl rfl) ⟨1, x, rfl, rfl, (by first | omega | rfl | assumption)⟩
    ·
      refine v_iconst fx dX8_repair_14 rfl ?_
      exact v_zret fx [(h0, ob 8 [.ref xa, .ref xb, .ref xc, .ref xd, .ref xe, .ref xf, .ref xg, .int (iI 0), .int (iI vk), .int (iI vw), .ref xm, .ref xv, .int (iI vg), .ref xw, .int (iI vb), .int (iI vi), .ref xq, .int (iI ve), .int (iI vf), .int (iI vu), .int (iI vl), .ref xr, .ref xh, .ref xo, .ref xp, .int (iI vr), .int (iI va), .int (iI vt), .int (iI vm), .int (iI vd), .int (iI vx)])] [0] hr dX8_repair_15 (by first | rfl | exact nar_z _ (by omega)) rfl rfl (nl rfl) (nl rfl) ⟨0, vu, rfl, rfl, (by first | omega | rfl | assumption)⟩
theorem dX8_order_0 : decode cX8_order 0 = .ok (.aload_n 0, 1) := by decide +kernel
theorem dX8_order_1 : decode cX8_order 1 = .ok (.iconst 0, 1) := by decide +kernel
theorem dX8_order_2 : decode cX8_order 2 = .ok (.putfield 66, 3) := by decide +kernel
theorem dX8_order_5 : decode cX8_order 5 = .ok (.aload_n 0, 1) := by decide +kernel
theorem dX8_order_6 : decode cX8_order 6 = .ok (.getfield 75, 3) := by decide +kernel
theorem dX8_order_9 : decode cX8_order 9 = .ok (.iload_n 1, 1) := by decide +kernel
theorem dX8_order_10 : decode cX8_order 10 = .ok (.if_icmp .ne 7, 3) := by decide +kernel
theorem dX8_order_13 : decode cX8_order 13 = .ok (.iconst 0, 1) := by decide +kernel
theorem dX8_order_14 : decode cX8_order 14 = .ok (.goto 4, 3) := by decide +kernel
theorem dX8_order_17 : decode cX8_order 17 = .ok (.iconst 1, 1) := by decide +kernel
theorem dX8_order_18 : decode cX8_order 18 = .ok (.istore_n 2, 1) := by decide +kernel
theorem dX8_order_19 : decode cX8_order 19 = .ok (.aload_n 0, 1) := by decide +kernel
theorem dX8_order_20 : decode cX8_order 20 = .ok (.iload_n 1, 1) := by decide +kernel
theorem dX8_order_21 : decode cX8_order 21 = .ok (.putfield 75, 3) := by decide +kernel
theorem dX8_order_24 : decode cX8_order 24 = .ok (.iload_n 2, 1) := by decide +kernel
theorem dX8_order_25 : decode cX8_order 25 = .ok (.ireturn, 1) := by decide +kernel
abbrev po_c_X8_order (g : GG) (h0 : Nat) (xa : Nat) (xb : Nat) (xc : Nat) (xd : Nat) (xe : Nat) (xf : Nat) (xg : Nat) (xm : Nat) (xv : Nat) (xw : Nat) (xq : Nat) (xr : Nat) (xh : Nat) (xo : Nat) (xp : Nat) (vc : Int) (vk : Int) (vw : Int) (vg : Int) (vb : Int) (vi : Int) (ve : Int) (vf : Int) (vu : Int) (vl : Int) (vr : Int) (va : Int) (vt : Int) (vm : Int) (vd : Int) (vx : Int) (x : Int) : Option Value → va_W → Prop := fun v8 w8 => ∃ r : Int, v8 = some (.int (iI r)) ∧ w8 = [(h0, ob 8 [.ref xa, .ref xb, .ref xc, .ref xd, .ref xe, .ref xf, .ref xg, .int (iI 0), .int (iI vk), .int (iI vw), .ref xm, .ref xv, .int (iI vg), .ref xw, .int (iI vb), .int (iI vi), .ref xq, .int (iI ve), .int (iI vf), .int (iI vu), .int (iI x), .ref xr, .ref xh, .ref xo, .ref xp, .int (iI vr), .int (iI va), .int (iI vt), .int (iI vm), .int (iI vd), .int (iI vx)])] ∧ ((r = 0 ∧ x = vl) ∨ (r = 1 ∧ x ≠ vl))
set_option maxHeartbeats 4000000 in
set_option maxRecDepth 100000 in
theorem c_X8_order (l : Launch) (g : GG) (h0 : Nat) (xa : Nat) (xb : Nat) (xc : Nat) (xd : Nat) (xe : Nat) (xf : Nat) (xg : Nat) (xm : Nat) (xv : Nat) (xw : Nat) (xq : Nat) (xr : Nat) (xh : Nat) (xo : Nat) (xp : Nat) (vc : Int) (vk : Int) (vw : Int) (vg : Int) (vb : Int) (vi : Int) (ve : Int) (vf : Int) (vu : Int) (vl : Int) (vr : Int) (va : Int) (vt : Int) (vm : Int) (vd : Int) (vx : Int) (x : Int) (hp0 : 0 ≤ x ∧ x ≤ 1) (hp1 : 0 ≤ vl ∧ vl ≤ 1) : Ct l g yX8_order (wM yX8_order cX8_order 3 (some .int)) (rmD 0 0 0) [.ref h0, .int (iI x)] [(h0, ob 8 [.ref xa, .ref xb, .ref xc, .ref xd, .ref xe, .ref xf, .ref xg, .int (iI vc), .int (iI vk), .int (iI vw), .ref xm, .ref xv, .int (iI vg), .ref xw, .int (iI vb), .int (iI vi), .ref xq, .int (iI ve), .int (iI vf), .int (iI vu), .int (iI vl), .ref xr, .ref xh, .ref xo, .ref xp, .int (iI vr), .int (iI va), .int (iI vt), .int (iI vm), .int (iI vd), .int (iI vx)])] (po_c_X8_order g h0 xa xb xc xd xe xf xg xm xv xw xq xr xh xo xp vc vk vw vg vb vi ve vf vu vl vr va vt vm vd vx x) := by
  refine Ct_of (by decide +kernel) (Nat.le_of_ble_eq_true rfl) ?_
  intro p9 e9 s9 m9 ag9 bl9 mt9 c9 A9 fx hr hnm
  refine v_aload_n fx 0 dX8_order_0 rfl rfl ?_
  refine v_iconst fx dX8_order_1 rfl ?_
  refine v_put fx 0 7 [(h0, ob 8 [.ref xa, .ref xb, .ref xc, .ref xd, .ref xe, .ref xf, .ref xg, .int (iI 0), .int (iI vk), .int (iI vw), .ref xm, .ref xv, .int (iI vg), .ref xw, .int (iI vb), .int (iI vi), .ref xq, .int (iI ve), .int (iI vf), .int (iI vu), .int (iI vl), .ref xr, .ref xh, .ref xo, .ref xp, .int (iI vr), .int (iI va), .int (iI vt), .int (iI vm), .int (iI vd), .int (iI vx)])] inX8 tyX8_ok nmX8 k1003 dX8_order_2 rfl rfl (by decide) rfl rfl rfl rfl (nl rfl) rfl rfl ?_
  refine v_aload_n fx 0 dX8_order_5 rfl rfl ?_
  refine v_get fx 0 20 inX8 k1016 dX8_order_6 rfl rfl (by decide) rfl rfl rfl ?_
  refine v_iload_n fx 1 dX8_order_9 rfl rfl ?_
  refine v_icmp_ne fx 17 dX8_order_10 (by decide) rfl (by omega) (by omega) (fun h_1 => ?_) (fun h_1 => ?_)
  ·
    refine v_iconst fx dX8_order_17 rfl ?_
    refine v_istore_n fx [(2, .int (iI 1)), (0, .ref h0), (1, .int (iI x))] dX8_order_18 (by decide) rfl rfl ?_
    refine v_aload_n fx 1 dX8_order_19 rfl rfl ?_
    refine v_iload_n fx 2 dX8_order_20 rfl rfl ?_
    refine v_put fx 0 20 [(h0, ob 8 [.ref xa, .ref xb, .ref xc, .ref xd, .ref xe, .ref xf, .ref xg, .int (iI 0), .int (iI vk), .int (iI vw), .ref xm, .ref xv, .int (iI vg), .ref xw, .int (iI vb), .int (iI vi), .ref xq, .int (iI ve), .int (iI vf), .int (iI vu), .int (iI x), .ref xr, .ref xh, .ref xo, .ref xp, .int (iI vr), .int (iI va), .int (iI vt), .int (iI vm), .int (iI vd), .int (iI vx)])] inX8 tyX8_ok nmX8 k1016 dX8_order_21 rfl rfl (by decide) rfl rfl (by first | exact nar_z _ (by omega) | simp_all) (by first | exact fit_z _ (by omega) | simp_all) (nl rfl) rfl rfl ?_
    refine v_iload_n fx 0 dX8_order_24 rfl rfl ?_
    exact v_iret fx [(h0, ob 8 [.ref xa, .ref xb, .ref xc, .ref xd, .ref xe, .ref xf, .ref xg, .int (iI 0), .int (iI vk), .int (iI vw), .ref xm, .ref xv, .int (iI vg), .ref xw, .int (iI vb), .int (iI vi), .ref xq, .int (iI ve), .int (iI vf), .int (iI vu), .int (iI x), .ref xr, .ref xh, .ref xo, .ref xp, .int (iI vr), .int (iI va), .int (iI vt), .int (iI vm), .int (iI vd), .int (iI vx)])] [0] hr dX8_order_25 rfl rfl (nl rfl) (nl rfl) ⟨1, rfl, rfl, (by first | omega | rfl | assumption)⟩
  ·
    refine v_iconst fx dX8_order_13 rfl ?_
    refine v_goto fx 18 dX8_order_14 (by decide) ?_
    refine v_istore_n fx [(2, .int (iI 0)), (0, .ref h0), (1, .int (iI x))] dX8_order_18 (by decide) rfl rfl ?_
    refine v_aload_n fx 1 dX8_order_19 rfl rfl ?_
    refine v_iload_n fx 2 dX8_order_20 rfl rfl ?_
    refine v_put fx 0 20 [(h0, ob 8 [.ref xa, .ref xb, .ref xc, .ref xd, .ref xe, .ref xf, .ref xg, .int (iI 0), .int (iI vk), .int (iI vw), .ref xm, .ref xv, .int (iI vg), .ref xw, .int (iI vb), .int (iI vi), .ref xq, .int (iI ve), .int (iI vf), .int (iI vu), .int (iI x), .ref xr, .ref xh, .ref xo, .ref xp, .int (iI vr), .int (iI va), .int (iI vt), .int (iI vm), .int (iI vd), .int (iI vx)])] inX8 tyX8_ok nmX8 k1016 dX8_order_21 rfl rfl (by decide) rfl rfl (by first | exact nar_z _ (by omega) | simp_all) (by first | exact fit_z _ (by omega) | simp_all) (nl rfl) rfl rfl ?_
    refine v_iload_n fx 0 dX8_order_24 rfl rfl ?_
    exact v_iret fx [(h0, ob 8 [.ref xa, .ref xb, .ref xc, .ref xd, .ref xe, .ref xf, .ref xg, .int (iI 0), .int (iI vk), .int (iI vw), .ref xm, .ref xv, .int (iI vg), .ref xw, .int (iI vb), .int (iI vi), .ref xq, .int (iI ve), .int (iI vf), .int (iI vu), .int (iI x), .ref xr, .ref xh, .ref xo, .ref xp, .int (iI vr), .int (iI va), .int (iI vt), .int (iI vm), .int (iI vd), .int (iI vx)])] [0] hr dX8_order_25 rfl rfl (nl rfl) (nl rfl) ⟨0, rfl, rfl, (by first | omega | rfl | assumption)⟩
theorem dX8_clear_0 : decode cX8_clear 0 = .ok (.aload_n 0, 1) := by decide +kernel
theorem dX8_clear_1 : decode cX8_clear 1 = .ok (.iconst 0, 1) := by decide +kernel
theorem dX8_clear_2 : decode cX8_clear 2 = .ok (.putfield 66, 3) := by decide +kernel
theorem dX8_clear_5 : decode cX8_clear 5 = .ok (.iconst 0, 1) := by decide +kernel
theorem dX8_clear_6 : decode cX8_clear 6 = .ok (.istore_n 1, 1) := by decide +kernel
theorem dX8_clear_7 : decode cX8_clear 7 = .ok (.iload_n 1, 1) := by decide +kernel
theorem dX8_clear_8 : decode cX8_clear 8 = .ok (.aload_n 0, 1) := by decide +kernel
theorem dX8_clear_9 : decode cX8_clear 9 = .ok (.getfield 63, 3) := by decide +kernel
theorem dX8_clear_12 : decode cX8_clear 12 = .ok (.if_icmp .ge 16, 3) := by decide +kernel
theorem dX8_clear_15 : decode cX8_clear 15 = .ok (.aload_n 0, 1) := by decide +kernel
theorem dX8_clear_16 : decode cX8_clear 16 = .ok (.getfield 31, 3) := by decide +kernel
theorem dX8_clear_19 : decode cX8_clear 19 = .ok (.iload_n 1, 1) := by decide +kernel
theorem dX8_clear_20 : decode cX8_clear 20 = .ok (.iconst 0, 1) := by decide +kernel
theorem dX8_clear_21 : decode cX8_clear 21 = .ok (.bastore, 1) := by decide +kernel
theorem dX8_clear_22 : decode cX8_clear 22 = .ok (.iinc 1 1, 3) := by decide +kernel
theorem dX8_clear_25 : decode cX8_clear 25 = .ok (.goto (-18), 3) := by decide +kernel
theorem dX8_clear_28 : decode cX8_clear 28 = .ok (.aload_n 0, 1) := by decide +kernel
theorem dX8_clear_29 : decode cX8_clear 29 = .ok (.iconst 0, 1) := by decide +kernel
theorem dX8_clear_30 : decode cX8_clear 30 = .ok (.putfield 69, 3) := by decide +kernel
theorem dX8_clear_33 : decode cX8_clear 33 = .ok (.aload_n 0, 1) := by decide +kernel
theorem dX8_clear_34 : decode cX8_clear 34 = .ok (.iconst 0, 1) := by decide +kernel
theorem dX8_clear_35 : decode cX8_clear 35 = .ok (.putfield 108, 3) := by decide +kernel
theorem dX8_clear_38 : decode cX8_clear 38 = .ok (.aload_n 0, 1) := by decide +kernel
theorem dX8_clear_39 : decode cX8_clear 39 = .ok (.iconst 0, 1) := by decide +kernel
theorem dX8_clear_40 : decode cX8_clear 40 = .ok (.putfield 72, 3) := by decide +kernel
theorem dX8_clear_43 : decode cX8_clear 43 = .ok (.aload_n 0, 1) := by decide +kernel
theorem dX8_clear_44 : decode cX8_clear 44 = .ok (.iconst 0, 1) := by decide +kernel
theorem dX8_clear_45 : decode cX8_clear 45 = .ok (.putfield 123, 3) := by decide +kernel
theorem dX8_clear_48 : decode cX8_clear 48 = .ok (.aload_n 0, 1) := by decide +kernel
theorem dX8_clear_49 : decode cX8_clear 49 = .ok (.iconst 0, 1) := by decide +kernel
theorem dX8_clear_50 : decode cX8_clear 50 = .ok (.putfield 184, 3) := by decide +kernel
theorem dX8_clear_53 : decode cX8_clear 53 = .ok (.return_, 1) := by decide +kernel
abbrev po_c_X8_clear (g : GG) (h0 : Nat) (xa : Nat) (xb : Nat) (xc : Nat) (xd : Nat) (xe : Nat) (xf : Nat) (xg : Nat) (xm : Nat) (xv : Nat) (xw : Nat) (xq : Nat) (xr : Nat) (xh : Nat) (xo : Nat) (xp : Nat) (vc : Int) (vk : Int) (vw : Int) (vg : Int) (vb : Int) (vi : Int) (ve : Int) (vf : Int) (vu : Int) (vl : Int) (vr : Int) (va : Int) (vt : Int) (vm : Int) (vd : Int) (vx : Int) (f : Nat → Int32) : Option Value → va_W → Prop := fun v8 w8 => ∃ f2 : Nat → Int32, v8 = none ∧ w8 = [(h0, ob 8 [.ref xa, .ref xb, .ref xc, .ref xd, .ref xe, .ref xf, .ref xg, .int (iI 0), .int (iI vk), .int (iI vw), .ref xm, .ref xv, .int (iI 0), .ref xw, .int (iI 0), .int (iI 0), .ref xq, .int (iI 0), .int (iI vf), .int (iI vu), .int (iI vl), .ref xr, .ref xh, .ref xo, .ref xp, .int (iI 0), .int (iI va), .int (iI vt), .int (iI vm), .int (iI vd), .int (iI vx)]), (xm, aZ g 3000 f2)]
set_option maxHeartbeats 4000000 in
set_option maxRecDepth 100000 in
theorem c_X8_clear (l : Launch) (g : GG) (h0 : Nat) (xa : Nat) (xb : Nat) (xc : Nat) (xd : Nat) (xe : Nat) (xf : Nat) (xg : Nat) (xm : Nat) (xv : Nat) (xw : Nat) (xq : Nat) (xr : Nat) (xh : Nat) (xo : Nat) (xp : Nat) (vc : Int) (vk : Int) (vw : Int) (vg : Int) (vb : Int) (vi : Int) (ve : Int) (vf : Int) (vu : Int) (vl : Int) (vr : Int) (va : Int) (vt : Int) (vm : Int) (vd : Int) (vx : Int) (f : Nat → Int32) (hp0 : 1 ≤ vw ∧ vw ≤ 3000) : Ct l g yX8_clear (wM yX8_clear cX8_clear 2 none) (rmD 0 0 0) [.ref h0] [(h0, ob 8 [.ref xa, .ref xb, .ref xc, .ref xd, .ref xe, .ref xf, .ref xg, .int (iI vc), .int (iI vk), .int (iI vw), .ref xm, .ref xv, .int (iI vg), .ref xw, .int (iI vb), .int (iI vi), .ref xq, .int (iI ve), .int (iI vf), .int (iI vu), .int (iI vl), .ref xr, .ref xh, .ref xo, .ref xp, .int (iI vr), .int (iI va), .int (iI vt), .int (iI vm), .int (iI vd), .int (iI vx)]), (xm, aZ g 3000 f)] (po_c_X8_clear g h0 xa xb xc xd xe xf xg xm xv xw xq xr xh xo xp vc vk vw vg vb vi ve vf vu vl vr va vt vm vd vx f) := by
  refine Ct_of (by decide +kernel) (Nat.le_of_ble_eq_true rfl) ?_
  intro p9 e9 s9 m9 ag9 bl9 mt9 c9 A9 fx hr hnm
  refine v_aload_n fx 0 dX8_clear_0 rfl rfl ?_
  refine v_iconst fx dX8_clear_1 rfl ?_
  refine v_put fx 0 7 [(h0, ob 8 [.ref xa, .ref xb, .ref xc, .ref xd, .ref xe, .ref xf, .ref xg, .int (iI 0), .int (iI vk), .int (iI vw), .ref xm, .ref xv, .int (iI vg), .ref xw, .int (iI vb), .int (iI vi), .ref xq, .int (iI ve), .int (iI vf), .int (iI vu), .int (iI vl), .ref xr, .ref xh, .ref xo, .ref xp, .int (iI vr), .int (iI va), .int (iI vt), .int (iI vm), .int (iI vd), .int (iI vx)]), (xm, aZ g 3000 f)] inX8 tyX8_ok nmX8 k1003 dX8_clear_2 rfl rfl (by decide) rfl rfl rfl rfl (nl rfl) rfl rfl ?_
  refine v_iconst fx dX8_clear_5 rfl ?_
  refine v_istore_n fx [(1, .int (iI 0)), (0, .ref h0)] dX8_clear_6 (by decide) rfl rfl ?_
  have L7 : ∀ (N : Nat) (i : Int) (f1 : Nat → Int32), (0 ≤ i ∧ i ≤ vw) → ((vw - i).toNat) < N → V p9 l e9 (rmD 0 0 0) s9 m9 ag9 bl9 mt9 c9 2 g A9 (MQ bl9 (cQ g (po_c_X8_clear g h0 xa xb xc xd xe xf xg xm xv xw xq xr xh xo xp vc vk vw vg vb vi ve vf vu vl vr va vt vm vd vx f) A9) ag9 s9 0 0 A9) [(h0, ob 8 [.ref xa, .ref xb, .ref xc, .ref xd, .ref xe, .ref xf, .ref xg, .int (iI 0), .int (iI vk), .int (iI vw), .ref xm, .ref xv, .int (iI vg), .ref xw, .int (iI vb), .int (iI vi), .ref xq, .int (iI ve), .int (iI vf), .int (iI vu), .int (iI vl), .ref xr, .ref xh, .ref xo, .ref xp, .int (iI vr), .int (iI va), .int (iI vt), .int (iI vm), .int (iI vd), .int (iI vx)]), (xm, aZ g 3000 f1)] 0 0 [(0, .ref h0), (1, .int (iI i))] 7 [] := by
    intro N
    induction N with
    | zero => intro i f1 hi7_0 hN; exact absurd hN (Nat.not_lt_zero _)
    | succ N ihL7 =>
      intro i f1 hi7_0 hN7
      refine v_iload_n fx 1 dX8_clear_7 rfl rfl ?_
      refine v_aload_n fx 0 dX8_clear_8 rfl rfl ?_
      refine v_get fx 0 9 inX8 k1005 dX8_clear_9 rfl rfl (by decide) rfl rfl rfl ?_
      refine v_icmp_ge fx 28 dX8_clear_12 (by decide) rfl (by omega) (by omega) (fun h_1 => ?_) (fun h_1 => ?_)
      ·
        refine v_aload_n fx 0 dX8_clear_28 rfl rfl ?_
        refine v_iconst fx dX8_clear_29 rfl ?_
        refine v_put fx 0 12 [(h0, ob 8 [.ref xa, .ref xb, .ref xc, .ref xd, .ref xe, .ref xf, .ref xg, .int (iI 0), .int (iI vk), .int (iI vw), .ref xm, .ref xv, .int (iI 0), .ref xw, .int (iI vb), .int (iI vi), .ref xq, .int (iI ve), .int (iI vf), .int (iI vu), .int (iI vl), .ref xr, .ref xh, .ref xo, .ref xp, .int (iI vr), .int (iI va), .int (iI vt), .int (iI vm), .int (iI vd), .int (iI vx)]), (xm, aZ g 3000 f1)] inX8 tyX8_ok nmX8 k1008 dX8_clear_30 rfl rfl (by decide) rfl rfl rfl rfl (nl rfl) rfl rfl ?_
        refine v_aload_n fx 0 dX8_clear_33 rfl rfl ?_
        refine v_iconst fx dX8_clear_34 rfl ?_
        refine v_put fx 0 15 [(h0, ob 8 [.ref xa, .ref xb, .ref xc, .ref xd, .ref xe, .ref xf, .ref xg, .int (iI 0), .int (iI vk), .int (iI vw), .ref xm, .ref xv, .int (iI 0), .ref xw, .int (iI vb), .int (iI 0), .ref xq, .int (iI ve), .int (iI vf), .int (iI vu), .int (iI vl), .ref xr, .ref xh, .ref xo, .ref xp, .int (iI vr), .int (iI va), .int (iI vt), .int (iI vm), .int (iI vd), .int (iI vx)]), (xm, aZ g 3000 f1)] inX8 tyX8_ok nmX8 k1011 dX8_clear_35 rfl rfl (by decide) rfl rfl rfl rfl (nl rfl) rfl rfl ?_
        refine v_aload_n fx 0 dX8_clear_38 rfl rfl ?_
        refine v_iconst fx dX8_clear_39 rfl ?_
        refine v_put fx 0 14 [(h0, ob 8 [.ref xa, .ref xb, .ref xc, .ref xd, .ref xe, .ref xf, .ref xg, .int (iI 0), .int (iI vk), .int (iI vw), .ref xm, .ref xv, .int (iI 0), .ref xw, .int (iI 0), .int (iI 0), .ref xq, .int (iI ve), .int (iI vf), .int (iI vu), .int (iI vl), .ref xr, .ref xh, .ref xo, .ref xp, .int (iI vr), .int (iI va), .int (iI vt), .int (iI vm), .int (iI vd), .int (iI vx)]), (xm, aZ g 3000 f1)] inX8 tyX8_ok nmX8 k1010 dX8_clear_40 rfl rfl (by decide) rfl rfl rfl rfl (nl rfl) rfl rfl ?_
        refine v_aload_n fx 0 dX8_clear_43 rfl rfl ?_
        refine v_iconst fx dX8_clear_44 rfl ?_
        refine v_put fx 0 17 [(h0, ob 8 [.ref xa, .ref xb, .ref xc, .ref xd, .ref xe, .ref xf, .ref xg, .int (iI 0), .int (iI vk), .int (iI vw), .ref xm, .ref xv, .int (iI 0), .ref xw, .int (iI 0), .int (iI 0), .ref xq, .int (iI 0), .int (iI vf), .int (iI vu), .int (iI vl), .ref xr, .ref xh, .ref xo, .ref xp, .int (iI vr), .int (iI va), .int (iI vt), .int (iI vm), .int (iI vd), .int (iI vx)]), (xm, aZ g 3000 f1)] inX8 tyX8_ok nmX8 k1013 dX8_clear_45 rfl rfl (by decide) rfl rfl rfl rfl (nl rfl) rfl rfl ?_
        refine v_aload_n fx 0 dX8_clear_48 rfl rfl ?_
        refine v_iconst fx dX8_clear_49 rfl ?_
        refine v_put fx 0 25 [(h0, ob 8 [.ref xa, .ref xb, .ref xc, .ref xd, .ref xe, .ref xf, .ref xg, .int (iI 0), .int (iI vk), .int (iI vw), .ref xm, .ref xv, .int (iI 0), .ref xw, .int (iI 0), .int (iI 0), .ref xq, .int (iI 0), .int (iI vf), .int (iI vu), .int (iI vl), .ref xr, .ref xh, .ref xo, .ref xp, .int (iI 0), .int (iI va), .int (iI vt), .int (iI vm), .int (iI vd), .int (iI vx)]), (xm, aZ g 3000 f1)] inX8 tyX8_ok nmX8 k1021 dX8_clear_50 rfl rfl (by decide) rfl rfl rfl rfl (nl rfl) rfl rfl ?_
        exact v_vret fx [(h0, ob 8 [.ref xa, .ref xb, .ref xc, .ref xd, .ref xe, .ref xf, .ref xg, .int (iI 0), .int (iI vk), .int (iI vw), .ref xm, .ref xv, .int (iI 0), .ref xw, .int (iI 0), .int (iI 0), .ref xq, .int (iI 0), .int (iI vf), .int (iI vu), .int (iI vl), .ref xr, .ref xh, .ref xo, .ref xp, .int (iI 0), .int (iI va), .int (iI vt), .int (iI vm), .int (iI vd), .int (iI vx)]), (xm, aZ g 3000 f1)] [0, 1] hr dX8_clear_53 rfl rfl (nl rfl) (nl rfl) ⟨f1, rfl, rfl⟩
      ·
        refine v_aload_n fx 0 dX8_clear_15 rfl rfl ?_
        refine v_get fx 0 10 inX8 k1006 dX8_clear_16 rfl rfl (by decide) rfl rfl rfl ?_
        refine v_iload_n fx 1 dX8_clear_19 rfl rfl ?_
        refine v_iconst fx dX8_clear_20 rfl ?_
        obtain ⟨f_2, ef_2⟩ : ∃ f9 : Nat → Int32, upd f1 (i).toNat (vp_nar .boolean (iI 0)) = f9 := ⟨_, rfl⟩
        refine v_zast fx 1 f_2 [(h0, ob 8 [.ref xa, .ref xb, .ref xc, .ref xd, .ref xe, .ref xf, .ref xg, .int (iI 0), .int (iI vk), .int (iI vw), .ref xm, .ref xv, .int (iI vg), .ref xw, .int (iI vb), .int (iI vi), .ref xq, .int (iI ve), .int (iI vf), .int (iI vu), .int (iI vl), .ref xr, .ref xh, .ref xo, .ref xp, .int (iI vr), .int (iI va), .int (iI vt), .int (iI vm), .int (iI vd), .int (iI vx)]), (xm, aZ g 3000 f_2)] dX8_clear_21 rfl (by omega) (by omega) ef_2 rfl rfl ?_
        refine v_iinc fx 1 (i + 1) [(1, .int (iI (i + 1))), (0, .ref h0)] dX8_clear_22 rfl (by omega) (by decide) rfl rfl ?_
        refine v_goto fx 7 dX8_clear_25 (by decide) ?_
        refine v_lv [1, 0] [(0, .ref h0), (1, .int (iI (i + 1)))] rfl ?_
        exact ihL7 (i + 1) f_2 (by omega) (by omega)
  refine v_lv [1, 0] [(0, .ref h0), (1, .int (iI 0))] rfl ?_
  exact L7 _ 0 f (by omega) (Nat.lt_succ_self _)
