/-! THE WRITER: how many bits come -/
theorem TI_item {F : Nat → Int} {fi : Nat → Int32} {w c x k a0 : Int} (hR : RI w c F fi) (hx : 0 ≤ x ∧ x < c) (hT : TI F fi x k a0) (hk : 0 ≤ k) : (0 ≤ itm F fi c w x k ∧ itm F fi c w x k < w ∧ a0 < itm F fi c w x k ∧ itm F fi c w x k = vl fi (F x.toNat + k) ∧ k < F (x.toNat + 1) - F x.toNat) ∨ (itm F fi c w x k = w ∧ F (x.toNat + 1) - F x.toNat ≤ k) := by
  rcases itm_or (F := F) (fi := fi) (c := c) (d := w) (x := x) (k := k) with ⟨g1, g2, g3, g4, g5⟩ | ⟨g1, g2⟩
  · left
    have e2 := (RI_at hR hx (F x.toNat + k) (by omega) (by omega)).1
    have e3 := hT (F x.toNat + k) (by omega) (by omega) (by omega)
    rw [g5]
    exact ⟨e2.1, e2.2, e3, rfl, g4⟩
  · right; exact ⟨g2, by omega⟩
theorem TI_next {F : Nat → Int} {fi : Nat → Int32} {w c x k a0 : Int} (hR : RI w c F fi) (hx : 0 ≤ x ∧ x < c) (hT : TI F fi x k a0) (hk : 0 ≤ k) : TI F fi x (k + 1) (itm F fi c w x k) := by
  rcases TI_item hR hx hT hk with ⟨g1, g2, g3, g4, g5⟩ | ⟨g1, g2⟩
  · intro i h1 h2 h3
    have e4 := (RI_at hR hx i (by omega) h3).2 (F x.toNat + k) (by omega) (by omega)
    omega
  · intro i h1 h2 h3; omega
theorem TI_less {F : Nat → Int} {fi : Nat → Int32} {w c x k a0 a1 : Int} (hR : RI w c F fi) (hx : 0 ≤ x ∧ x < c) (hT : TI F fi x k a0) (hk : 0 ≤ k) (ha : a1 < itm F fi c w x k) : TI F fi x k a1 := by
  rcases TI_item hR hx hT hk with ⟨g1, g2, g3, g4, g5⟩ | ⟨g1, g2⟩
  · exact TI_at (RI_at hR hx) hk (by omega)
  · intro i h1 h2 h3; omega
theorem TI_0 {F : Nat → Int} {fi : Nat → Int32} {w c x : Int} (hR : RI w c F fi) (hx : -1 ≤ x ∧ x < c) : TI F fi x 0 (-1) := by
  intro i h1 h2 h3
  have := (RI_at hR (x := x) (by omega) i (by omega) h3).1.1
  omega
/-- a1: behind a0, or the row's end -/
theorem a1_of {F : Nat → Int} {fi : Nat → Int32} {w c x k a0 : Int} (hR : RI w c F fi) (hx : 0 ≤ x ∧ x < c) (hT : TI F fi x k a0) (hk : 0 ≤ k) (hw : a0 < w) (hw0 : 0 ≤ w) : a0 < itm F fi c w x k ∧ 0 ≤ itm F fi c w x k ∧ itm F fi c w x k ≤ w := by
  rcases TI_item hR hx hT hk with ⟨g1, g2, g3, g4, g5⟩ | ⟨g1, g2⟩ <;> omega
theorem a2_of {F : Nat → Int} {fi : Nat → Int32} {w c x k a0 : Int} (hR : RI w c F fi) (hx : 0 ≤ x ∧ x < c) (hT : TI F fi x k a0) (hk : 0 ≤ k) (hw0 : 0 ≤ w) : (itm F fi c w x k < itm F fi c w x (k + 1) ∧ itm F fi c w x (k + 1) ≤ w) ∨ (itm F fi c w x k = w ∧ itm F fi c w x (k + 1) = w) := by
  have h2 := TI_next hR hx hT hk
  rcases TI_item hR hx hT hk with ⟨g1, g2, g3, g4, g5⟩ | ⟨g1, g2⟩
  · have := a1_of hR hx h2 (by omega) g2 hw0
    omega
  · right
    refine ⟨g1, itm_out (by omega)⟩
/-- how many bits a row takes that is told up to a0 -/
def bgt (a0 w : Int) : Int := if a0 < 0 then 0 else if a0 < w then 7 * a0 + 17 else 7 * w + 30
theorem bgt_0 (w : Int) : bgt (-1) w = 0 := rfl
theorem bgt_le {a0 w : Int} (h : a0 ≤ w) (hw : 0 ≤ w) : 0 ≤ bgt a0 w ∧ bgt a0 w ≤ 7 * w + 30 := by
  unfold bgt
  split
  · omega
  · split <;> omega
theorem bgt_to {a0 b w : Int} (h : a0 < b) (h0 : 0 ≤ b) (hb : b ≤ w) : bgt a0 w + 7 ≤ bgt b w := by
  unfold bgt
  rw [if_neg (show ¬ b < 0 by omega)]
  split <;> split <;> (try split) <;> omega
theorem bgt_run {a0 a1 w rs bk k1 : Int} (hw : -1 ≤ a0 ∧ a0 < w) (hrs : (a0 < 0 ∧ rs = 0) ∨ (0 ≤ a0 ∧ rs = a0)) (h1 : a0 < a1 ∧ 0 ≤ a1 ∧ a1 ≤ w) (hbk : 0 ≤ bk ∧ bk ≤ 1) (e1 : (a1 - rs = 0 ∧ k1 ≤ 10) ∨ (1 ≤ a1 - rs ∧ k1 ≤ 7 * (a1 - rs) - 1 - bk)) : bgt a0 w + (3 + k1) ≤ 7 * w + 40 := by
  unfold bgt
  split <;> (try split) <;> omega
theorem bgt_hor {a0 a1 a2 w rs bk k1 k2 : Int} (hw : -1 ≤ a0 ∧ a0 < w) (hrs : (a0 < 0 ∧ rs = 0) ∨ (0 ≤ a0 ∧ rs = a0)) (h1 : a0 < a1 ∧ 0 ≤ a1 ∧ a1 ≤ w) (h2 : (a1 < a2 ∧ a2 ≤ w) ∨ (a1 = w ∧ a2 = w)) (hbk : 0 ≤ bk ∧ bk ≤ 1) (e1 : (a1 - rs = 0 ∧ k1 ≤ 10) ∨ (1 ≤ a1 - rs ∧ k1 ≤ 7 * (a1 - rs) - 1 - bk)) (e2 : (a2 - a1 = 0 ∧ k2 ≤ 10) ∨ (1 ≤ a2 - a1 ∧ k2 ≤ 7 * (a2 - a1) - 1 - (1 - bk))) : bgt a0 w + (3 + k1 + k2) ≤ bgt a2 w := by
  unfold bgt
  rw [if_neg (show ¬ a2 < 0 by omega)]
  split <;> (try split) <;> (try split) <;> omega
theorem dX6_writeRun_0 : decode cX6_writeRun 0 = .ok (.iload_n 1, 1) := by decide +kernel
theorem dX6_writeRun_1 : decode cX6_writeRun 1 = .ok (.istore_n 3, 1) := by decide +kernel
theorem dX6_writeRun_2 : decode cX6_writeRun 2 = .ok (.iload_n 3, 1) := by decide +kernel
theorem dX6_writeRun_3 : decode cX6_writeRun 3 = .ok (.sipush 2560, 3) := by decide +kernel
theorem dX6_writeRun_6 : decode cX6_writeRun 6 = .ok (.if_icmp .lt 26, 3) := by decide +kernel
theorem dX6_writeRun_9 : decode cX6_writeRun 9 = .ok (.aload_n 0, 1) := by decide +kernel
theorem dX6_writeRun_10 : decode cX6_writeRun 10 = .ok (.getfield 19, 3) := by decide +kernel
theorem dX6_writeRun_13 : decode cX6_writeRun 13 = .ok (.aload_n 0, 1) := by decide +kernel
theorem dX6_writeRun_14 : decode cX6_writeRun 14 = .ok (.bipush 103, 2) := by decide +kernel
theorem dX6_writeRun_16 : decode cX6_writeRun 16 = .ok (.iload_n 2, 1) := by decide +kernel
theorem dX6_writeRun_17 : decode cX6_writeRun 17 = .ok (.invokevirtual 105, 3) := by decide +kernel
theorem dX6_writeRun_20 : decode cX6_writeRun 20 = .ok (.invokevirtual 42, 3) := by decide +kernel
theorem dX6_writeRun_23 : decode cX6_writeRun 23 = .ok (.iinc 3 (-2560), 6) := by decide +kernel
theorem dX6_writeRun_29 : decode cX6_writeRun 29 = .ok (.goto (-27), 3) := by decide +kernel
theorem dX6_writeRun_32 : decode cX6_writeRun 32 = .ok (.iload_n 3, 1) := by decide +kernel
theorem dX6_writeRun_33 : decode cX6_writeRun 33 = .ok (.bipush 64, 2) := by decide +kernel
theorem dX6_writeRun_35 : decode cX6_writeRun 35 = .ok (.if_icmp .lt 22, 3) := by decide +kernel
theorem dX6_writeRun_38 : decode cX6_writeRun 38 = .ok (.aload_n 0, 1) := by decide +kernel
theorem dX6_writeRun_39 : decode cX6_writeRun 39 = .ok (.getfield 19, 3) := by decide +kernel
theorem dX6_writeRun_42 : decode cX6_writeRun 42 = .ok (.aload_n 0, 1) := by decide +kernel
theorem dX6_writeRun_43 : decode cX6_writeRun 43 = .ok (.iload_n 3, 1) := by decide +kernel
theorem dX6_writeRun_44 : decode cX6_writeRun 44 = .ok (.bipush 64, 2) := by decide +kernel
theorem dX6_writeRun_46 : decode cX6_writeRun 46 = .ok (.idiv, 1) := by decide +kernel
theorem dX6_writeRun_47 : decode cX6_writeRun 47 = .ok (.bipush 63, 2) := by decide +kernel
theorem dX6_writeRun_49 : decode cX6_writeRun 49 = .ok (.iadd, 1) := by decide +kernel
theorem dX6_writeRun_50 : decode cX6_writeRun 50 = .ok (.iload_n 2, 1) := by decide +kernel
theorem dX6_writeRun_51 : decode cX6_writeRun 51 = .ok (.invokevirtual 105, 3) := by decide +kernel
theorem dX6_writeRun_54 : decode cX6_writeRun 54 = .ok (.invokevirtual 42, 3) := by decide +kernel
theorem dX6_writeRun_57 : decode cX6_writeRun 57 = .ok (.aload_n 0, 1) := by decide +kernel
theorem dX6_writeRun_58 : decode cX6_writeRun 58 = .ok (.getfield 19, 3) := by decide +kernel
theorem dX6_writeRun_61 : decode cX6_writeRun 61 = .ok (.aload_n 0, 1) := by decide +kernel
theorem dX6_writeRun_62 : decode cX6_writeRun 62 = .ok (.iload_n 3, 1) := by decide +kernel
theorem dX6_writeRun_63 : decode cX6_writeRun 63 = .ok (.bipush 64, 2) := by decide +kernel
theorem dX6_writeRun_65 : decode cX6_writeRun 65 = .ok (.irem, 1) := by decide +kernel
theorem dX6_writeRun_66 : decode cX6_writeRun 66 = .ok (.iload_n 2, 1) := by decide +kernel
theorem dX6_writeRun_67 : decode cX6_writeRun 67 = .ok (.invokevirtual 105, 3) := by decide +kernel
theorem dX6_writeRun_70 : decode cX6_writeRun 70 = .ok (.invokevirtual 42, 3) := by decide +kernel
theorem dX6_writeRun_73 : decode cX6_writeRun 73 = .ok (.return_, 1) := by decide +kernel
abbrev po_c_X6_writeRun (g : GG) (h0 : Nat) (r : Nat) (o : Nat) (td : Nat) (w : Int) (ba : Nat) (n : Nat) (f : Nat → Int32) (cb : Int) (pl : Int) (tu : Int) (x : Int) (bk : Int) : Option Value → va_W → Nat → Nat → Prop := fun v8 w8 kc8 ks8 => ∃ b2 : Nat, ∃ n2 : Nat, ∃ f2 : Nat → Int32, ∃ c2 : Int, v8 = none ∧ w8 = [(h0, ob 6 [.ref r, .int (iI w), .ref o, .ref td]), (o, ob 0 [.ref b2, .int (iI c2), .int (iI pl), .int (iI tu)]), (b2, aB g n2 f2)] ∧ (ks8 + 2 * n ≤ 2 * n2 ∧ 64 * kc8 ≤ ks8 ∧ n ≤ n2 ∧ n2 ≤ 130000) ∧ (c2 ≤ 8 * (n2 : Int) ∧ cb ≤ c2) ∧ (bF f2) ∧ ((x = 0 ∧ c2 ≤ cb + 10) ∨ (1 ≤ x ∧ c2 ≤ cb + 7 * x - 1 - bk))
set_option maxHeartbeats 4000000 in
set_option maxRecDepth 100000 in
theorem c_X6_writeRun (l : Launch) (g : GG) (h0 : Nat) (r : Nat) (o : Nat) (td : Nat) (w : Int) (ba : Nat) (n : Nat) (f : Nat → Int32) (cb : Int) (pl : Int) (tu : Int) (x : Int) (bk : Int) (hp0 : 0 ≤ cb ∧ cb ≤ 8 * (n : Int) ∧ 64 ≤ n ∧ n ≤ 130000) (hp1 : bF f) (hp2 : 0 ≤ x ∧ x ≤ 3000) (hp3 : 0 ≤ bk ∧ bk ≤ 1) (hp4 : cb ≤ 508000) : CtE l g yX6_writeRun (wM yX6_writeRun cX6_writeRun 4 none) (rmD 4 4070 530000) [.ref h0, .int (iI x), .int (iI bk)] [(h0, ob 6 [.ref r, .int (iI w), .ref o, .ref td]), (o, ob 0 [.ref ba, .int (iI cb), .int (iI pl), .int (iI tu)]), (ba, aB g n f)] (po_c_X6_writeRun g h0 r o td w ba n f cb pl tu x bk) := by
  refine CtE_of (by decide +kernel) (Nat.le_of_ble_eq_true rfl) ?_
  intro p9 e9 s9 m9 ag9 bl9 mt9 c9 A9 fx hr hnm
  refine v_iload_n fx 1 dX6_writeRun_0 rfl rfl ?_
  refine v_istore_n fx [(3, .int (iI x)), (0, .ref h0), (1, .int (iI x)), (2, .int (iI bk))] dX6_writeRun_1 (by decide) rfl rfl ?_
  have L2 : ∀ (N : Nat) (y : Int) (b1 : Nat) (n1 : Nat) (f1 : Nat → Int32) (c1 : Int) (cl : Nat) (sl : Nat), (bF f1) → (c1 ≤ 8 * (n1 : Int) ∧ cb ≤ c1 ∧ n ≤ n1 ∧ n1 ≤ 130000 ∧ sl + 2 * n ≤ 2 * n1 ∧ 64 * cl ≤ sl) → ((y = x ∧ c1 = cb) ∨ (y = x - 2560 ∧ 0 ≤ y ∧ c1 ≤ cb + 13)) → y.toNat < N → V p9 l e9 (rmD 4 4070 530000) s9 m9 ag9 bl9 mt9 c9 4 g A9 (MQE bl9 (cQE g (po_c_X6_writeRun g h0 r o td w ba n f cb pl tu x bk) A9) ag9 s9 A9) [(h0, ob 6 [.ref r, .int (iI w), .ref o, .ref td]), (o, ob 0 [.ref b1, .int (iI c1), .int (iI pl), .int (iI tu)]), (b1, aB g n1 f1)] cl sl [(0, .ref h0), (1, .int (iI x)), (2, .int (iI bk)), (3, .int (iI y))] 2 [] := by
    intro N
    induction N with
    | zero => intro y b1 n1 f1 c1 cl sl hi2_0 hi2_1 hi2_2 hN; exact absurd hN (Nat.not_lt_zero _)
    | succ N ihL2 =>
      intro y b1 n1 f1 c1 cl sl hi2_0 hi2_1 hi2_2 hN2
      refine v_iload_n fx 3 dX6_writeRun_2 rfl rfl ?_
      refine v_sipush fx dX6_writeRun_3 (by decide +kernel) rfl ?_
      refine v_icmp_lt fx 32 dX6_writeRun_6 (by decide) rfl (by omega) (by omega) (fun h_1 => ?_) (fun h_1 => ?_)
      ·
        refine v_iload_n fx 3 dX6_writeRun_32 rfl rfl ?_
        refine v_bipush fx dX6_writeRun_33 (by decide +kernel) rfl ?_
        refine v_icmp_lt fx 57 dX6_writeRun_35 (by decide) rfl (by omega) (by omega) (fun h_2 => ?_) (fun h_2 => ?_)
        ·
          refine v_aload_n fx 0 dX6_writeRun_57 rfl rfl ?_
          refine v_get fx 0 2 inX6 k168 dX6_writeRun_58 rfl rfl (by decide) rfl rfl rfl ?_
          refine v_aload_n fx 0 dX6_writeRun_61 rfl rfl ?_
          refine v_iload_n fx 3 dX6_writeRun_62 rfl rfl ?_
          refine v_bipush fx dX6_writeRun_63 (by decide +kernel) rfl ?_
          refine v_irem fx (iI (y % 64)) dX6_writeRun_65 (by decide) (iI_rem (by omega) 64 (by decide) (by decide)) rfl ?_
          refine v_iload_n fx 2 dX6_writeRun_66 rfl rfl ?_
          refine v_callV (As := [.int (iI (y % 64)), .int (iI bk)]) (rest := [.ref o]) fx [0] [1, 2] [(h0, ob 6 [.ref r, .int (iI w), .ref o, .ref td])] [(o, ob 0 [.ref b1, .int (iI c1), .int (iI pl), .int (iI tu)]), (b1, aB g n1 f1)] 2 0 (c_X6_runCode l g h0 r o td w (y % 64) bk (by first | omega | decide | assumption) (by first | omega | decide | assumption)) dX6_writeRun_67 k740 k742 k10 k51 k743 ykX6_runCode rfl rfl rfl rfl rfl rfl rfl rfl (nl rfl) ⟨nl rfl, nl rfl⟩ ⟨(by show cl + 0 ≤ 4070; omega), (by show sl + 0 ≤ 530000; omega)⟩ rfl (fun v9 w9 hu => ?_)
          obtain ⟨q_3, rfl, rfl, u_4, u_5⟩ := hu
          refine v_is (wn := [(o, ob 0 [.ref b1, .int (iI c1), .int (iI pl), .int (iI tu)]), (b1, aB g n1 f1), (h0, ob 6 [.ref r, .int (iI w), .ref o, .ref td])]) (cn := cl) (sn := sl) (sn2 := [.int (iI q_3), .ref o]) rfl rfl rfl rfl ?_
          have hrb := rbB_lt (x := y % 64) (b := bk) (by omega)
          refine v_callVE (As := [.int (iI q_3)]) (rest := []) fx [0, 1] [2] [(o, ob 0 [.ref b1, .int (iI c1), .int (iI pl), .int (iI tu)]), (b1, aB g n1 f1)] [(h0, ob 6 [.ref r, .int (iI w), .ref o, .ref td])] 1 0 (c_X0_addCode l g o b1 n1 f1 c1 pl tu q_3 (by first | omega | decide | assumption) (by first | assumption | exact hp1) (by first | omega | decide | assumption) (by first | omega | decide | assumption)) dX6_writeRun_70 k703 k704 k705 k50 k706 ykX0_addCode rfl rfl rfl rfl rfl rfl rfl rfl (nl rfl) ⟨nl rfl, nl rfl⟩ ⟨(by show cl + 1 ≤ 4070; omega), (by show sl + 260000 ≤ 530000; omega)⟩ rfl (fun v9 w9 kc_6 ks_7 hu => ?_)
          obtain ⟨b2_8, n2_9, f2_10, c2_11, rfl, rfl, u_12, u_13, u_14, u_15, u_16⟩ := hu
          refine v_is (wn := [(h0, ob 6 [.ref r, .int (iI w), .ref o, .ref td]), (o, ob 0 [.ref b2_8, .int (iI c2_11), .int (iI pl), .int (iI tu)]), (b2_8, aB g n2_9 f2_10)]) (cn := cl + kc_6) (sn := sl + ks_7) (sn2 := []) rfl rfl rfl rfl ?_
          exact v_vretE fx [(h0, ob 6 [.ref r, .int (iI w), .ref o, .ref td]), (o, ob 0 [.ref b2_8, .int (iI c2_11), .int (iI pl), .int (iI tu)]), (b2_8, aB g n2_9 f2_10)] [0, 1, 2] hr dX6_writeRun_73 rfl rfl ⟨b2_8, n2_9, f2_10, c2_11, rfl, rfl, (by first | omega | rfl | assumption), (by first | omega | rfl | assumption), (by assumption), (by omega)⟩
        ·
          refine v_aload_n fx 0 dX6_writeRun_38 rfl rfl ?_
          refine v_get fx 0 2 inX6 k168 dX6_writeRun_39 rfl rfl (by decide) rfl rfl rfl ?_
          refine v_aload_n fx 0 dX6_writeRun_42 rfl rfl ?_
          refine v_iload_n fx 3 dX6_writeRun_43 rfl rfl ?_
          refine v_bipush fx dX6_writeRun_44 (by decide +kernel) rfl ?_
          refine v_idiv fx (iI (y / 64)) dX6_writeRun_46 (by decide) (iI_div (by omega) 64 (by decide) (by decide)) rfl ?_
          refine v_bipush fx dX6_writeRun_47 (by decide +kernel) rfl ?_
          refine v_iadd fx ((y / 64) + 63) dX6_writeRun_49 (by rfl) rfl ?_
          refine v_iload_n fx 2 dX6_writeRun_50 rfl rfl ?_
          refine v_callV (As := [.int (iI ((y / 64) + 63)), .int (iI bk)]) (rest := [.ref o]) fx [0] [1, 2] [(h0, ob 6 [.ref r, .int (iI w), .ref o, .ref td])] [(o, ob 0 [.ref b1, .int (iI c1), .int (iI pl), .int (iI tu)]), (b1, aB g n1 f1)] 2 0 (c_X6_runCode l g h0 r o td w ((y / 64) + 63) bk (by first | omega | decide | assumption) (by first | omega | decide | assumption)) dX6_writeRun_51 k740 k742 k10 k51 k743 ykX6_runCode rfl rfl rfl rfl rfl rfl rfl rfl (nl rfl) ⟨nl rfl, nl rfl⟩ ⟨(by show cl + 0 ≤ 4070; omega), (by show sl + 0 ≤ 530000; omega)⟩ rfl (fun v9 w9 hu => ?_)
          obtain ⟨q_17, rfl, rfl, u_18, u_19⟩ := hu
          refine v_is (wn := [(o, ob 0 [.ref b1, .int (iI c1), .int (iI pl), .int (iI tu)]), (b1, aB g n1 f1), (h0, ob 6 [.ref r, .int (iI w), .ref o, .ref td])]) (cn := cl) (sn := sl) (sn2 := [.int (iI q_17), .ref o]) rfl rfl rfl rfl ?_
          refine v_callVE (As := [.int (iI q_17)]) (rest := []) fx [0, 1] [2] [(o, ob 0 [.ref b1, .int (iI c1), .int (iI pl), .int (iI tu)]), (b1, aB g n1 f1)] [(h0, ob 6 [.ref r, .int (iI w), .ref o, .ref td])] 1 0 (c_X0_addCode l g o b1 n1 f1 c1 pl tu q_17 (by first | omega | decide | assumption) (by first | assumption | exact hp1) (by first | omega | decide | assumption) (by first | omega | decide | assumption)) dX6_writeRun_54 k703 k704 k705 k50 k706 ykX0_addCode rfl rfl rfl rfl rfl rfl rfl rfl (nl rfl) ⟨nl rfl, nl rfl⟩ ⟨(by show cl + 1 ≤ 4070; omega), (by show sl + 260000 ≤ 530000; omega)⟩ rfl (fun v9 w9 kc_20 ks_21 hu => ?_)
          obtain ⟨b2_22, n2_23, f2_24, c2_25, rfl, rfl, u_26, u_27, u_28, u_29, u_30⟩ := hu
          refine v_is (wn := [(h0, ob 6 [.ref r, .int (iI w), .ref o, .ref td]), (o, ob 0 [.ref b2_22, .int (iI c2_25), .int (iI pl), .int (iI tu)]), (b2_22, aB g n2_23 f2_24)]) (cn := cl + kc_20) (sn := sl + ks_21) (sn2 := []) rfl rfl rfl rfl ?_
          refine v_aload_n fx 0 dX6_writeRun_57 rfl rfl ?_
          refine v_get fx 0 2 inX6 k168 dX6_writeRun_58 rfl rfl (by decide) rfl rfl rfl ?_
          refine v_aload_n fx 0 dX6_writeRun_61 rfl rfl ?_
          refine v_iload_n fx 3 dX6_writeRun_62 rfl rfl ?_
          refine v_bipush fx dX6_writeRun_63 (by decide +kernel) rfl ?_
          refine v_irem fx (iI (y % 64)) dX6_writeRun_65 (by decide) (iI_rem (by omega) 64 (by decide) (by decide)) rfl ?_
          refine v_iload_n fx 2 dX6_writeRun_66 rfl rfl ?_
          refine v_callV (As := [.int (iI (y % 64)), .int (iI bk)]) (rest := [.ref o]) fx [0] [1, 2] [(h0, ob 6 [.ref r, .int (iI w), .ref o, .ref td])] [(o, ob 0 [.ref b2_22, .int (iI c2_25), .int (iI pl), .int (iI tu)]), (b2_22, aB g n2_23 f2_24)] 2 0 (c_X6_runCode l g h0 r o td w (y % 64) bk (by first | omega | decide | assumption) (by first | omega | decide | assumption)) dX6_writeRun_67 k740 k742 k10 k51 k743 ykX6_runCode rfl rfl rfl rfl rfl rfl rfl rfl (nl rfl) ⟨nl rfl, nl rfl⟩ ⟨(by show (cl + kc_20) + 0 ≤ 4070; omega), (by show (sl + ks_21) + 0 ≤ 530000; omega)⟩ rfl (fun v9 w9 hu => ?_)
          obtain ⟨q_31, rfl, rfl, u_32, u_33⟩ := hu
          refine v_is (wn := [(o, ob 0 [.ref b2_22, .int (iI c2_25), .int (iI pl), .int (iI tu)]), (b2_22, aB g n2_23 f2_24), (h0, ob 6 [.ref r, .int (iI w), .ref o, .ref td])]) (cn := cl + kc_20) (sn := sl + ks_21) (sn2 := [.int (iI q_31), .ref o]) rfl rfl rfl rfl ?_
          have hrb := rbB_lt (x := y % 64) (b := bk) (by omega)
          refine v_callVE (As := [.int (iI q_31)]) (rest := []) fx [0, 1] [2] [(o, ob 0 [.ref b2_22, .int (iI c2_25), .int (iI pl), .int (iI tu)]), (b2_22, aB g n2_23 f2_24)] [(h0, ob 6 [.ref r, .int (iI w), .ref o, .ref td])] 1 0 (c_X0_addCode l g o b2_22 n2_23 f2_24 c2_25 pl tu q_31 (by first | omega | decide | assumption) (by first | assumption | exact hp1) (by first | omega | decide | assumption) (by first | omega | decide | assumption)) dX6_writeRun_70 k703 k704 k705 k50 k706 ykX0_addCode rfl rfl rfl rfl rfl rfl rfl rfl (nl rfl) ⟨nl rfl, nl rfl⟩ ⟨(by show (cl + kc_20) + 1 ≤ 4070; omega), (by show (sl + ks_21) + 260000 ≤ 530000; omega)⟩ rfl (fun v9 w9 kc_34 ks_35 hu => ?_)
          obtain ⟨b2_36, n2_37, f2_38, c2_39, rfl, rfl, u_40, u_41, u_42, u_43, u_44⟩ := hu
          refine v_is (wn := [(h0, ob 6 [.ref r, .int (iI w), .ref o, .ref td]), (o, ob 0 [.ref b2_36, .int (iI c2_39), .int (iI pl), .int (iI tu)]), (b2_36, aB g n2_37 f2_38)]) (cn := cl + kc_20 + kc_34) (sn := sl + ks_21 + ks_35) (sn2 := []) rfl rfl rfl rfl ?_
          exact v_vretE fx [(h0, ob 6 [.ref r, .int (iI w), .ref o, .ref td]), (o, ob 0 [.ref b2_36, .int (iI c2_39), .int (iI pl), .int (iI tu)]), (b2_36, aB g n2_37 f2_38)] [0, 1, 2] hr dX6_writeRun_73 rfl rfl ⟨b2_36, n2_37, f2_38, c2_39, rfl, rfl, (by first | omega | rfl | assumption), (by first | omega | rfl | assumption), (by assumption), (by omega)⟩
      ·
        refine v_aload_n fx 0 dX6_writeRun_9 rfl rfl ?_
        refine v_get fx 0 2 inX6 k168 dX6_writeRun_10 rfl rfl (by decide) rfl rfl rfl ?_
        refine v_aload_n fx 0 dX6_writeRun_13 rfl rfl ?_
        refine v_bipush fx dX6_writeRun_14 (by decide +kernel) rfl ?_
        refine v_iload_n fx 2 dX6_writeRun_16 rfl rfl ?_
        refine v_callV (As := [.int (iI 103), .int (iI bk)]) (rest := [.ref o]) fx [0] [1, 2] [(h0, ob 6 [.ref r, .int (iI w), .ref o, .ref td])] [(o, ob 0 [.ref b1, .int (iI c1), .int (iI pl), .int (iI tu)]), (b1, aB g n1 f1)] 2 0 (c_X6_runCode l g h0 r o td w 103 bk (by first | omega | decide | assumption) (by first | omega | decide | assumption)) dX6_writeRun_17 k740 k742 k10 k51 k743 ykX6_runCode rfl rfl rfl rfl rfl rfl rfl rfl (nl rfl) ⟨nl rfl, nl rfl⟩ ⟨(by show cl + 0 ≤ 4070; omega), (by show sl + 0 ≤ 530000; omega)⟩ rfl (fun v9 w9 hu => ?_)
        obtain ⟨q_45, rfl, rfl, u_46, u_47⟩ := hu
        refine v_is (wn := [(o, ob 0 [.ref b1, .int (iI c1), .int (iI pl), .int (iI tu)]), (b1, aB g n1 f1), (h0, ob 6 [.ref r, .int (iI w), .ref o, .ref td])]) (cn := cl) (sn := sl) (sn2 := [.int (iI q_45), .ref o]) rfl rfl rfl rfl ?_
        refine v_callVE (As := [.int (iI q_45)]) (rest := []) fx [0, 1] [2] [(o, ob 0 [.ref b1, .int (iI c1), .int (iI pl), .int (iI tu)]), (b1, aB g n1 f1)] [(h0, ob 6 [.ref r, .int (iI w), .ref o, .ref td])] 1 0 (c_X0_addCode l g o b1 n1 f1 c1 pl tu q_45 (by first | omega | decide | assumption) (by first | assumption | exact hp1) (by first | omega | decide | assumption) (by first | omega | decide | assumption)) dX6_writeRun_20 k703 k704 k705 k50 k706 ykX0_addCode rfl rfl rfl rfl rfl rfl rfl rfl (nl rfl) ⟨nl rfl, nl rfl⟩ ⟨(by show cl + 1 ≤ 4070; omega), (by show sl + 260000 ≤ 530000; omega)⟩ rfl (fun v9 w9 kc_48 ks_49 hu => ?_)
        obtain ⟨b2_50, n2_51, f2_52, c2_53, rfl, rfl, u_54, u_55, u_56, u_57, u_58⟩ := hu
        refine v_is (wn := [(h0, ob 6 [.ref r, .int (iI w), .ref o, .ref td]), (o, ob 0 [.ref b2_50, .int (iI c2_53), .int (iI pl), .int (iI tu)]), (b2_50, aB g n2_51 f2_52)]) (cn := cl + kc_48) (sn := sl + ks_49) (sn2 := []) rfl rfl rfl rfl ?_
        refine v_iincW fx 3 (y - 2560) [(3, .int (iI (y - 2560))), (0, .ref h0), (1, .int (iI x)), (2, .int (iI bk))] dX6_writeRun_23 rfl (by omega) (by decide) rfl rfl ?_
        refine v_goto fx 2 dX6_writeRun_29 (by decide) ?_
        refine v_lv [1, 2, 3, 0] [(0, .ref h0), (1, .int (iI x)), (2, .int (iI bk)), (3, .int (iI (y - 2560)))] rfl ?_
        exact ihL2 (y - 2560) b2_50 n2_51 f2_52 c2_53 (cl + kc_48) (sl + ks_49) (by assumption) (by omega) (by omega) (by omega)
  refine v_lv [1, 2, 3, 0] [(0, .ref h0), (1, .int (iI x)), (2, .int (iI bk)), (3, .int (iI x))] rfl ?_
  exact L2 _ x ba n f cb 0 0 (by exact hp1) (by omega) (by omega) (Nat.lt_succ_self _)
theorem dX6_writeRuns_0 : decode cX6_writeRuns 0 = .ok (.aload_n 0, 1) := by decide +kernel
theorem dX6_writeRuns_1 : decode cX6_writeRuns 1 = .ok (.getfield 9, 3) := by decide +kernel
theorem dX6_writeRuns_4 : decode cX6_writeRuns 4 = .ok (.iload_n 1, 1) := by decide +kernel
theorem dX6_writeRuns_5 : decode cX6_writeRuns 5 = .ok (.invokevirtual 64, 3) := by decide +kernel
theorem dX6_writeRuns_8 : decode cX6_writeRuns 8 = .ok (.iconst 1, 1) := by decide +kernel
theorem dX6_writeRuns_9 : decode cX6_writeRuns 9 = .ok (.iadd, 1) := by decide +kernel
theorem dX6_writeRuns_10 : decode cX6_writeRuns 10 = .ok (.istore_n 2, 1) := by decide +kernel
theorem dX6_writeRuns_11 : decode cX6_writeRuns 11 = .ok (.iconst 0, 1) := by decide +kernel
theorem dX6_writeRuns_12 : decode cX6_writeRuns 12 = .ok (.istore_n 3, 1) := by decide +kernel
theorem dX6_writeRuns_13 : decode cX6_writeRuns 13 = .ok (.iconst 0, 1) := by decide +kernel
theorem dX6_writeRuns_14 : decode cX6_writeRuns 14 = .ok (.istore 4, 2) := by decide +kernel
theorem dX6_writeRuns_16 : decode cX6_writeRuns 16 = .ok (.iload 4, 2) := by decide +kernel
theorem dX6_writeRuns_18 : decode cX6_writeRuns 18 = .ok (.iload_n 2, 1) := by decide +kernel
theorem dX6_writeRuns_19 : decode cX6_writeRuns 19 = .ok (.if_icmp .ge 49, 3) := by decide +kernel
theorem dX6_writeRuns_22 : decode cX6_writeRuns 22 = .ok (.aload_n 0, 1) := by decide +kernel
theorem dX6_writeRuns_23 : decode cX6_writeRuns 23 = .ok (.getfield 9, 3) := by decide +kernel
theorem dX6_writeRuns_26 : decode cX6_writeRuns 26 = .ok (.iload_n 1, 1) := by decide +kernel
theorem dX6_writeRuns_27 : decode cX6_writeRuns 27 = .ok (.iload 4, 2) := by decide +kernel
theorem dX6_writeRuns_29 : decode cX6_writeRuns 29 = .ok (.aload_n 0, 1) := by decide +kernel
theorem dX6_writeRuns_30 : decode cX6_writeRuns 30 = .ok (.getfield 15, 3) := by decide +kernel
theorem dX6_writeRuns_33 : decode cX6_writeRuns 33 = .ok (.invokevirtual 68, 3) := by decide +kernel
theorem dX6_writeRuns_36 : decode cX6_writeRuns 36 = .ok (.istore 5, 2) := by decide +kernel
theorem dX6_writeRuns_38 : decode cX6_writeRuns 38 = .ok (.aload_n 0, 1) := by decide +kernel
theorem dX6_writeRuns_39 : decode cX6_writeRuns 39 = .ok (.iload 5, 2) := by decide +kernel
theorem dX6_writeRuns_41 : decode cX6_writeRuns 41 = .ok (.iload_n 3, 1) := by decide +kernel
theorem dX6_writeRuns_42 : decode cX6_writeRuns 42 = .ok (.isub, 1) := by decide +kernel
theorem dX6_writeRuns_43 : decode cX6_writeRuns 43 = .ok (.iload 4, 2) := by decide +kernel
theorem dX6_writeRuns_45 : decode cX6_writeRuns 45 = .ok (.iconst 2, 1) := by decide +kernel
theorem dX6_writeRuns_46 : decode cX6_writeRuns 46 = .ok (.irem, 1) := by decide +kernel
theorem dX6_writeRuns_47 : decode cX6_writeRuns 47 = .ok (.iconst 1, 1) := by decide +kernel
theorem dX6_writeRuns_48 : decode cX6_writeRuns 48 = .ok (.if_icmp .ne 7, 3) := by decide +kernel
theorem dX6_writeRuns_51 : decode cX6_writeRuns 51 = .ok (.iconst 1, 1) := by decide +kernel
theorem dX6_writeRuns_52 : decode cX6_writeRuns 52 = .ok (.goto 4, 3) := by decide +kernel
theorem dX6_writeRuns_55 : decode cX6_writeRuns 55 = .ok (.iconst 0, 1) := by decide +kernel
theorem dX6_writeRuns_56 : decode cX6_writeRuns 56 = .ok (.invokevirtual 72, 3) := by decide +kernel
theorem dX6_writeRuns_59 : decode cX6_writeRuns 59 = .ok (.iload 5, 2) := by decide +kernel
theorem dX6_writeRuns_61 : decode cX6_writeRuns 61 = .ok (.istore_n 3, 1) := by decide +kernel
theorem dX6_writeRuns_62 : decode cX6_writeRuns 62 = .ok (.iinc 4 1, 3) := by decide +kernel
theorem dX6_writeRuns_65 : decode cX6_writeRuns 65 = .ok (.goto (-49), 3) := by decide +kernel
theorem dX6_writeRuns_68 : decode cX6_writeRuns 68 = .ok (.return_, 1) := by decide +kernel
abbrev po_c_X6_writeRuns (g : GG) (h0 : Nat) (r : Nat) (o : Nat) (td : Nat) (w : Int) (ba : Nat) (n : Nat) (f : Nat → Int32) (cb : Int) (pl : Int) (tu : Int) (rs : Nat) (it : Nat) (m : Nat) (c : Int) (F : Nat → Int) (fs : Nat → Int32) (fi : Nat → Int32) (x : Int) : Option Value → va_W → Nat → Nat → Prop := fun v8 w8 kc8 ks8 => ∃ b2 : Nat, ∃ n2 : Nat, ∃ f2 : Nat → Int32, ∃ c2 : Int, v8 = none ∧ w8 = [(h0, ob 6 [.ref r, .int (iI w), .ref o, .ref td]), (o, ob 0 [.ref b2, .int (iI c2), .int (iI pl), .int (iI tu)]), (b2, aB g n2 f2), (r, ob 2 [.ref rs, .ref it, .int (iI c)]), (rs, aI g 27 fs), (it, aI g m fi)] ∧ (ks8 + 2 * n ≤ 2 * n2 ∧ 64 * kc8 ≤ ks8 ∧ n ≤ n2 ∧ n2 ≤ 130000) ∧ (c2 ≤ 8 * (n2 : Int) ∧ cb ≤ c2) ∧ (bF f2) ∧ (c2 ≤ cb + 7 * w + 30)
set_option maxHeartbeats 4000000 in
set_option maxRecDepth 100000 in
theorem c_X6_writeRuns (l : Launch) (g : GG) (h0 : Nat) (r : Nat) (o : Nat) (td : Nat) (w : Int) (ba : Nat) (n : Nat) (f : Nat → Int32) (cb : Int) (pl : Int) (tu : Int) (rs : Nat) (it : Nat) (m : Nat) (c : Int) (F : Nat → Int) (fs : Nat → Int32) (fi : Nat → Int32) (x : Int) (hp0 : 0 ≤ cb ∧ cb ≤ 8 * (n : Int) ∧ 64 ≤ n ∧ n ≤ 130000) (hp1 : bF f) (hp2 : LB c F fs m) (hp3 : RI w c F fi) (hp4 : 0 ≤ x ∧ x < c) (hp5 : 1 ≤ w ∧ w ≤ 3000) (hp6 : cb ≤ 486000) : CtE l g yX6_writeRuns (wM yX6_writeRuns cX6_writeRuns 6 none) (rmD 5 8200 800000) [.ref h0, .int (iI x)] [(h0, ob 6 [.ref r, .int (iI w), .ref o, .ref td]), (o, ob 0 [.ref ba, .int (iI cb), .int (iI pl), .int (iI tu)]), (ba, aB g n f), (r, ob 2 [.ref rs, .ref it, .int (iI c)]), (rs, aI g 27 fs), (it, aI g m fi)] (po_c_X6_writeRuns g h0 r o td w ba n f cb pl tu rs it m c F fs fi x) := by
  refine CtE_of (by decide +kernel) (Nat.le_of_ble_eq_true rfl) ?_
  intro p9 e9 s9 m9 ag9 bl9 mt9 c9 A9 fx hr hnm
  have hc := LB_c hp2
  have hm := LB_n hp2
  refine v_aload_n fx 0 dX6_writeRuns_0 rfl rfl ?_
  refine v_get fx 0 0 inX6 k166 dX6_writeRuns_1 rfl rfl (by decide) rfl rfl rfl ?_
  refine v_iload_n fx 1 dX6_writeRuns_4 rfl rfl ?_
  refine v_callV (As := [.int (iI x)]) (rest := []) fx [3, 4] [0, 1, 2, 5] [(r, ob 2 [.ref rs, .ref it, .int (iI c)]), (rs, aI g 27 fs)] [(h0, ob 6 [.ref r, .int (iI w), .ref o, .ref td]), (o, ob 0 [.ref ba, .int (iI cb), .int (iI pl), .int (iI tu)]), (ba, aB g n f), (it, aI g m fi)] 1 0 (c_X2_length l g r rs it m c F fs fi x (by first | omega | decide | assumption) (by first | omega | decide | assumption)) dX6_writeRuns_5 k763 k719 k720 k49 k721 ykX2_length rfl rfl rfl rfl rfl rfl rfl rfl (nl rfl) ⟨nl rfl, nl rfl⟩ ⟨(nl rfl), (nl rfl)⟩ rfl (fun v9 w9 hu => ?_)
  obtain ⟨ln, rfl, rfl, u_1, u_2⟩ := hu
  refine v_is (wn := [(h0, ob 6 [.ref r, .int (iI w), .ref o, .ref td]), (o, ob 0 [.ref ba, .int (iI cb), .int (iI pl), .int (iI tu)]), (ba, aB g n f), (it, aI g m fi), (r, ob 2 [.ref rs, .ref it, .int (iI c)]), (rs, aI g 27 fs)]) (cn := 0) (sn := 0) (sn2 := [.int (iI ln)]) rfl rfl rfl rfl ?_
  have hln : ln = F (x.toNat + 1) - F x.toNat := by omega
  have hln2 : ln ≤ 3000 := by
    have := inc_len (RI_at hp3 hp4) (by omega); omega
  clear u_1
  refine v_iconst fx dX6_writeRuns_8 rfl ?_
  refine v_iadd fx (ln + 1) dX6_writeRuns_9 (by rfl) rfl ?_
  refine v_istore_n fx [(2, .int (iI (ln + 1))), (0, .ref h0), (1, .int (iI x))] dX6_writeRuns_10 (by decide) rfl rfl ?_
  refine v_iconst fx dX6_writeRuns_11 rfl ?_
  refine v_istore_n fx [(3, .int (iI 0)), (2, .int (iI (ln + 1))), (0, .ref h0), (1, .int (iI x))] dX6_writeRuns_12 (by decide) rfl rfl ?_
  refine v_iconst fx dX6_writeRuns_13 rfl ?_
  refine v_istore fx [(4, .int (iI 0)), (3, .int (iI 0)), (2, .int (iI (ln + 1))), (0, .ref h0), (1, .int (iI x))] dX6_writeRuns_14 (by decide) rfl rfl ?_
  have L16 : ∀ (N : Nat) (k : Int) (st : Int) (a0 : Int) (b1 : Nat) (n1 : Nat) (f1 : Nat → Int32) (c1 : Int) (cl : Nat) (sl : Nat), (bF f1) → (c1 ≤ 8 * (n1 : Int) ∧ cb ≤ c1 ∧ n ≤ n1 ∧ n1 ≤ 130000 ∧ sl + 2 * n ≤ 2 * n1 ∧ 64 * cl ≤ sl) → (0 ≤ k ∧ k ≤ ln + 1) → (TI F fi x k a0) → (a0 ≤ st ∧ st ≤ a0 + 1 ∧ 0 ≤ st ∧ st ≤ w) → (st < w ∨ k = ln + 1) → (c1 ≤ cb + 7 * st + 10 - 10 * (st - a0)) → ((ln + 1 - k).toNat) < N → V p9 l e9 (rmD 5 8200 800000) s9 m9 ag9 bl9 mt9 c9 6 g A9 (MQE bl9 (cQE g (po_c_X6_writeRuns g h0 r o td w ba n f cb pl tu rs it m c F fs fi x) A9) ag9 s9 A9) [(h0, ob 6 [.ref r, .int (iI w), .ref o, .ref td]), (o, ob 0 [.ref b1, .int (iI c1), .int (iI pl), .int (iI tu)]), (b1, aB g n1 f1), (r, ob 2 [.ref rs, .ref it, .int (iI c)]), (rs, aI g 27 fs), (it, aI g m fi)] cl sl [(0, .ref h0), (1, .int (iI x)), (2, .int (iI (ln + 1))), (3, .int (iI st)), (4, .int (iI k))] 16 [] := by
    intro N
    induction N with
    | zero => intro k st a0 b1 n1 f1 c1 cl sl hi16_0 hi16_1 hi16_2 hi16_3 hi16_4 hi16_5 hi16_6 hN; exact absurd hN (Nat.not_lt_zero _)
    | succ N ihL16 =>
      intro k st a0 b1 n1 f1 c1 cl sl hi16_0 hi16_1 hi16_2 hi16_3 hi16_4 hi16_5 hi16_6 hN16
      refine v_iload fx 4 dX6_writeRuns_16 rfl rfl ?_
      refine v_iload_n fx 2 dX6_writeRuns_18 rfl rfl ?_
      refine v_icmp_ge fx 68 dX6_writeRuns_19 (by decide) rfl (by omega) (by omega) (fun h_3 => ?_) (fun h_3 => ?_)
      ·
        exact v_vretE fx [(h0, ob 6 [.ref r, .int (iI w), .ref o, .ref td]), (o, ob 0 [.ref b1, .int (iI c1), .int (iI pl), .int (iI tu)]), (b1, aB g n1 f1), (r, ob 2 [.ref rs, .ref it, .int (iI c)]), (rs, aI g 27 fs), (it, aI g m fi)] [0, 1, 2, 3, 4, 5] hr dX6_writeRuns_68 rfl rfl ⟨b1, n1, f1, c1, rfl, rfl, (by first | omega | rfl | assumption), (by first | omega | rfl | assumption), (by exact hi16_0), (by first | omega | rfl | assumption)⟩
      ·
        refine v_aload_n fx 0 dX6_writeRuns_22 rfl rfl ?_
        refine v_get fx 0 0 inX6 k166 dX6_writeRuns_23 rfl rfl (by decide) rfl rfl rfl ?_
        refine v_iload_n fx 1 dX6_writeRuns_26 rfl rfl ?_
        refine v_iload fx 4 dX6_writeRuns_27 rfl rfl ?_
        refine v_aload_n fx 0 dX6_writeRuns_29 rfl rfl ?_
        refine v_get fx 0 1 inX6 k167 dX6_writeRuns_30 rfl rfl (by decide) rfl rfl rfl ?_
        refine v_callV (As := [.int (iI x), .int (iI k), .int (iI w)]) (rest := []) fx [3, 4, 5] [0, 1, 2] [(r, ob 2 [.ref rs, .ref it, .int (iI c)]), (rs, aI g 27 fs), (it, aI g m fi)] [(h0, ob 6 [.ref r, .int (iI w), .ref o, .ref td]), (o, ob 0 [.ref b1, .int (iI c1), .int (iI pl), .int (iI tu)]), (b1, aB g n1 f1)] 3 0 (c_X2_item l g r rs it m c F fs fi x k w (by first | omega | decide | assumption) (by omega) (by omega) (by omega)) dX6_writeRuns_33 k685 k686 k687 k49 k688 ykX2_item rfl rfl rfl rfl rfl rfl rfl rfl (nl rfl) ⟨nl rfl, nl rfl⟩ ⟨(by show cl + 0 ≤ 8200; omega), (by show sl + 0 ≤ 800000; omega)⟩ rfl (fun v9 w9 hu => ?_)
        obtain ⟨v, rfl, rfl, u_4, u_5⟩ := hu
        refine v_is (wn := [(h0, ob 6 [.ref r, .int (iI w), .ref o, .ref td]), (o, ob 0 [.ref b1, .int (iI c1), .int (iI pl), .int (iI tu)]), (b1, aB g n1 f1), (r, ob 2 [.ref rs, .ref it, .int (iI c)]), (rs, aI g 27 fs), (it, aI g m fi)]) (cn := cl) (sn := sl) (sn2 := [.int (iI v)]) rfl rfl rfl rfl ?_
        have hnx := TI_next hp3 hp4 hi16_3 (by omega)
        have hit := TI_item hp3 hp4 hi16_3 (by omega)
        rw [← u_4] at hnx hit
        refine v_istore fx [(5, .int (iI v)), (0, .ref h0), (1, .int (iI x)), (2, .int (iI (ln + 1))), (3, .int (iI st)), (4, .int (iI k))] dX6_writeRuns_36 (by decide) rfl rfl ?_
        refine v_aload_n fx 1 dX6_writeRuns_38 rfl rfl ?_
        refine v_iload fx 0 dX6_writeRuns_39 rfl rfl ?_
        refine v_iload_n fx 4 dX6_writeRuns_41 rfl rfl ?_
        refine v_isub fx (v - st) dX6_writeRuns_42 (by rfl) rfl ?_
        refine v_iload fx 5 dX6_writeRuns_43 rfl rfl ?_
        refine v_iconst fx dX6_writeRuns_45 rfl ?_
        refine v_irem fx (iI (k % 2)) dX6_writeRuns_46 (by decide) (iI_rem (by omega) 2 (by decide) (by decide)) rfl ?_
        refine v_iconst fx dX6_writeRuns_47 rfl ?_
        refine v_icmp_ne fx 55 dX6_writeRuns_48 (by decide) rfl (by omega) (by omega) (fun h_6 => ?_) (fun h_6 => ?_)
        ·
          refine v_iconst fx dX6_writeRuns_55 rfl ?_
          refine v_callVE (As := [.int (iI (v - st)), .int (iI 0)]) (rest := []) fx [0, 1, 2] [3, 4, 5] [(h0, ob 6 [.ref r, .int (iI w), .ref o, .ref td]), (o, ob 0 [.ref b1, .int (iI c1), .int (iI pl), .int (iI tu)]), (b1, aB g n1 f1)] [(r, ob 2 [.ref rs, .ref it, .int (iI c)]), (rs, aI g 27 fs), (it, aI g m fi)] 2 0 (c_X6_writeRun l g h0 r o td w b1 n1 f1 c1 pl tu (v - st) 0 (by first | omega | decide | assumption) (by exact hi16_0) (by first | omega | decide | assumption) (by first | omega | decide | assumption) (by first | omega | decide | assumption)) dX6_writeRuns_56 k736 k738 k9 k51 k739 ykX6_writeRun rfl rfl rfl rfl rfl rfl rfl rfl (nl rfl) ⟨nl rfl, nl rfl⟩ ⟨(by show cl + 4070 ≤ 8200; omega), (by show sl + 530000 ≤ 800000; omega)⟩ rfl (fun v9 w9 kc_7 ks_8 hu => ?_)
          obtain ⟨b2_9, n2_10, f2_11, c2_12, rfl, rfl, u_13, u_14, u_15, u_16⟩ := hu
          refine v_is (wn := [(r, ob 2 [.ref rs, .ref it, .int (iI c)]), (rs, aI g 27 fs), (it, aI g m fi), (h0, ob 6 [.ref r, .int (iI w), .ref o, .ref td]), (o, ob 0 [.ref b2_9, .int (iI c2_12), .int (iI pl), .int (iI tu)]), (b2_9, aB g n2_10 f2_11)]) (cn := cl + kc_7) (sn := sl + ks_8) (sn2 := []) rfl rfl rfl rfl ?_
          refine v_iload fx 0 dX6_writeRuns_59 rfl rfl ?_
          refine v_istore_n fx [(3, .int (iI v)), (5, .int (iI v)), (0, .ref h0), (1, .int (iI x)), (2, .int (iI (ln + 1))), (4, .int (iI k))] dX6_writeRuns_61 (by decide) rfl rfl ?_
          refine v_iinc fx 5 (k + 1) [(4, .int (iI (k + 1))), (3, .int (iI v)), (5, .int (iI v)), (0, .ref h0), (1, .int (iI x)), (2, .int (iI (ln + 1)))] dX6_writeRuns_62 rfl (by omega) (by decide) rfl rfl ?_
          refine v_goto fx 16 dX6_writeRuns_65 (by decide) ?_
          refine v_ws [3, 4, 5, 0, 1, 2] [(h0, ob 6 [.ref r, .int (iI w), .ref o, .ref td]), (o, ob 0 [.ref b2_9, .int (iI c2_12), .int (iI pl), .int (iI tu)]), (b2_9, aB g n2_10 f2_11), (r, ob 2 [.ref rs, .ref it, .int (iI c)]), (rs, aI g 27 fs), (it, aI g m fi)] rfl rfl ?_
          refine v_lv [3, 4, 5, 1, 0] [(0, .ref h0), (1, .int (iI x)), (2, .int (iI (ln + 1))), (3, .int (iI v)), (4, .int (iI (k + 1)))] rfl ?_
          exact ihL16 (k + 1) v v b2_9 n2_10 f2_11 c2_12 (cl + kc_7) (sl + ks_8) (by assumption) (by omega) (by omega) (by exact hnx) (by omega) (by omega) (by omega) (by omega)
        ·
          refine v_iconst fx dX6_writeRuns_51 rfl ?_
          refine v_goto fx 56 dX6_writeRuns_52 (by decide) ?_
          refine v_callVE (As := [.int (iI (v - st)), .int (iI 1)]) (rest := []) fx [0, 1, 2] [3, 4, 5] [(h0, ob 6 [.ref r, .int (iI w), .ref o, .ref td]), (o, ob 0 [.ref b1, .int (iI c1), .int (iI pl), .int (iI tu)]), (b1, aB g n1 f1)] [(r, ob 2 [.ref rs, .ref it, .int (iI c)]), (rs, aI g 27 fs), (it, aI g m fi)] 2 0 (c_X6_writeRun l g h0 r o td w b1 n1 f1 c1 pl tu (v - st) 1 (by first | omega | decide | assumption) (by exact hi16_0) (by first | omega | decide | assumption) (by first | omega | decide | assumption) (by first | omega | decide | assumption)) dX6_writeRuns_56 k736 k738 k9 k51 k739 ykX6_writeRun rfl rfl rfl rfl rfl rfl rfl rfl (nl rfl) ⟨nl rfl, nl rfl⟩ ⟨(by show cl + 4070 ≤ 8200; omega), (by show sl + 530000 ≤ 800000; omega)⟩ rfl (fun v9 w9 kc_17 ks_18 hu => ?_)
          obtain ⟨b2_19, n2_20, f2_21, c2_22, rfl, rfl, u_23, u_24, u_25, u_26⟩ := hu
          refine v_is (wn := [(r, ob 2 [.ref rs, .ref it, .int (iI c)]), (rs, aI g 27 fs), (it, aI g m fi), (h0, ob 6 [.ref r, .int (iI w), .ref o, .ref td]), (o, ob 0 [.ref b2_19, .int (iI c2_22), .int (iI pl), .int (iI tu)]), (b2_19, aB g n2_20 f2_21)]) (cn := cl + kc_17) (sn := sl + ks_18) (sn2 := []) rfl rfl rfl rfl ?_
          refine v_iload fx 0 dX6_writeRuns_59 rfl rfl ?_
          refine v_istore_n fx [(3, .int (iI v)), (5, .int (iI v)), (0, .ref h0), (1, .int (iI x)), (2, .int (iI (ln + 1))), (4, .int (iI k))] dX6_writeRuns_61 (by decide) rfl rfl ?_
          refine v_iinc fx 5 (k + 1) [(4, .int (iI (k + 1))), (3, .int (iI v)), (5, .int (iI v)), (0, .ref h0), (1, .int (iI x)), (2, .int (iI (ln + 1)))] dX6_writeRuns_62 rfl (by omega) (by decide) rfl rfl ?_
          refine v_goto fx 16 dX6_writeRuns_65 (by decide) ?_
          refine v_ws [3, 4, 5, 0, 1, 2] [(h0, ob 6 [.ref r, .int (iI w), .ref o, .ref td]), (o, ob 0 [.ref b2_19, .int (iI c2_22), .int (iI pl), .int (iI tu)]), (b2_19, aB g n2_20 f2_21), (r, ob 2 [.ref rs, .ref it, .int (iI c)]), (rs, aI g 27 fs), (it, aI g m fi)] rfl rfl ?_
          refine v_lv [3, 4, 5, 1, 0] [(0, .ref h0), (1, .int (iI x)), (2, .int (iI (ln + 1))), (3, .int (iI v)), (4, .int (iI (k + 1)))] rfl ?_
          exact ihL16 (k + 1) v v b2_19 n2_20 f2_21 c2_22 (cl + kc_17) (sl + ks_18) (by assumption) (by omega) (by omega) (by exact hnx) (by omega) (by omega) (by omega) (by omega)
  refine v_ws [0, 1, 2, 4, 5, 3] [(h0, ob 6 [.ref r, .int (iI w), .ref o, .ref td]), (o, ob 0 [.ref ba, .int (iI cb), .int (iI pl), .int (iI tu)]), (ba, aB g n f), (r, ob 2 [.ref rs, .ref it, .int (iI c)]), (rs, aI g 27 fs), (it, aI g m fi)] rfl rfl ?_
  refine v_lv [3, 4, 2, 1, 0] [(0, .ref h0), (1, .int (iI x)), (2, .int (iI (ln + 1))), (3, .int (iI 0)), (4, .int (iI 0))] rfl ?_
  exact L16 _ 0 0 (-1) ba n f cb 0 0 (by exact hp1) (by omega) (by omega) (by exact TI_0 hp3 (by omega)) (by omega) (by omega) (by omega) (Nat.lt_succ_self _)
theorem dX6_writeModes_0 : decode cX6_writeModes 0 = .ok (.aload_n 0, 1) := by decide +kernel
theorem dX6_writeModes_1 : decode cX6_writeModes 1 = .ok (.getfield 28, 3) := by decide +kernel
theorem dX6_writeModes_4 : decode cX6_writeModes 4 = .ok (.iload_n 1, 1) := by decide +kernel
theorem dX6_writeModes_5 : decode cX6_writeModes 5 = .ok (.invokevirtual 76, 3) := by decide +kernel
theorem dX6_writeModes_8 : decode cX6_writeModes 8 = .ok (.iconst 0, 1) := by decide +kernel
theorem dX6_writeModes_9 : decode cX6_writeModes 9 = .ok (.istore_n 2, 1) := by decide +kernel
theorem dX6_writeModes_10 : decode cX6_writeModes 10 = .ok (.iconst 0, 1) := by decide +kernel
theorem dX6_writeModes_11 : decode cX6_writeModes 11 = .ok (.istore_n 3, 1) := by decide +kernel
theorem dX6_writeModes_12 : decode cX6_writeModes 12 = .ok (.iload_n 3, 1) := by decide +kernel
theorem dX6_writeModes_13 : decode cX6_writeModes 13 = .ok (.aload_n 0, 1) := by decide +kernel
theorem dX6_writeModes_14 : decode cX6_writeModes 14 = .ok (.getfield 15, 3) := by decide +kernel
theorem dX6_writeModes_17 : decode cX6_writeModes 17 = .ok (.if_icmp .gt 216, 3) := by decide +kernel
theorem dX6_writeModes_20 : decode cX6_writeModes 20 = .ok (.aload_n 0, 1) := by decide +kernel
theorem dX6_writeModes_21 : decode cX6_writeModes 21 = .ok (.getfield 28, 3) := by decide +kernel
theorem dX6_writeModes_24 : decode cX6_writeModes 24 = .ok (.invokevirtual 79, 3) := by decide +kernel
theorem dX6_writeModes_27 : decode cX6_writeModes 27 = .ok (.ifCond .ne 206, 3) := by decide +kernel
theorem dX6_writeModes_30 : decode cX6_writeModes 30 = .ok (.aload_n 0, 1) := by decide +kernel
theorem dX6_writeModes_31 : decode cX6_writeModes 31 = .ok (.getfield 9, 3) := by decide +kernel
theorem dX6_writeModes_34 : decode cX6_writeModes 34 = .ok (.iload_n 1, 1) := by decide +kernel
theorem dX6_writeModes_35 : decode cX6_writeModes 35 = .ok (.iload_n 2, 1) := by decide +kernel
theorem dX6_writeModes_36 : decode cX6_writeModes 36 = .ok (.aload_n 0, 1) := by decide +kernel
theorem dX6_writeModes_37 : decode cX6_writeModes 37 = .ok (.getfield 15, 3) := by decide +kernel
theorem dX6_writeModes_40 : decode cX6_writeModes 40 = .ok (.invokevirtual 68, 3) := by decide +kernel
theorem dX6_writeModes_43 : decode cX6_writeModes 43 = .ok (.istore 4, 2) := by decide +kernel
theorem dX6_writeModes_45 : decode cX6_writeModes 45 = .ok (.iload 4, 2) := by decide +kernel
theorem dX6_writeModes_47 : decode cX6_writeModes 47 = .ok (.aload_n 0, 1) := by decide +kernel
theorem dX6_writeModes_48 : decode cX6_writeModes 48 = .ok (.getfield 28, 3) := by decide +kernel
theorem dX6_writeModes_51 : decode cX6_writeModes 51 = .ok (.invokevirtual 83, 3) := by decide +kernel
theorem dX6_writeModes_54 : decode cX6_writeModes 54 = .ok (.isub, 1) := by decide +kernel
theorem dX6_writeModes_55 : decode cX6_writeModes 55 = .ok (.istore 5, 2) := by decide +kernel
theorem dX6_writeModes_57 : decode cX6_writeModes 57 = .ok (.aload_n 0, 1) := by decide +kernel
theorem dX6_writeModes_58 : decode cX6_writeModes 58 = .ok (.getfield 28, 3) := by decide +kernel
theorem dX6_writeModes_61 : decode cX6_writeModes 61 = .ok (.invokevirtual 86, 3) := by decide +kernel
theorem dX6_writeModes_64 : decode cX6_writeModes 64 = .ok (.iload 4, 2) := by decide +kernel
theorem dX6_writeModes_66 : decode cX6_writeModes 66 = .ok (.if_icmp .ge 32, 3) := by decide +kernel
theorem dX6_writeModes_69 : decode cX6_writeModes 69 = .ok (.aload_n 0, 1) := by decide +kernel
theorem dX6_writeModes_70 : decode cX6_writeModes 70 = .ok (.getfield 19, 3) := by decide +kernel
theorem dX6_writeModes_73 : decode cX6_writeModes 73 = .ok (.getstatic 89, 3) := by decide +kernel
theorem dX6_writeModes_76 : decode cX6_writeModes 76 = .ok (.iconst 0, 1) := by decide +kernel
theorem dX6_writeModes_77 : decode cX6_writeModes 77 = .ok (.iaload, 1) := by decide +kernel
theorem dX6_writeModes_78 : decode cX6_writeModes 78 = .ok (.invokevirtual 42, 3) := by decide +kernel
theorem dX6_writeModes_81 : decode cX6_writeModes 81 = .ok (.aload_n 0, 1) := by decide +kernel
theorem dX6_writeModes_82 : decode cX6_writeModes 82 = .ok (.getfield 28, 3) := by decide +kernel
theorem dX6_writeModes_85 : decode cX6_writeModes 85 = .ok (.aload_n 0, 1) := by decide +kernel
theorem dX6_writeModes_86 : decode cX6_writeModes 86 = .ok (.getfield 28, 3) := by decide +kernel
theorem dX6_writeModes_89 : decode cX6_writeModes 89 = .ok (.invokevirtual 86, 3) := by decide +kernel
theorem dX6_writeModes_92 : decode cX6_writeModes 92 = .ok (.invokevirtual 93, 3) := by decide +kernel
theorem dX6_writeModes_95 : decode cX6_writeModes 95 = .ok (.goto 132, 3) := by decide +kernel
theorem dX6_writeModes_98 : decode cX6_writeModes 98 = .ok (.iload 5, 2) := by decide +kernel
theorem dX6_writeModes_100 : decode cX6_writeModes 100 = .ok (.bipush (-3), 2) := by decide +kernel
theorem dX6_writeModes_102 : decode cX6_writeModes 102 = .ok (.if_icmp .lt 39, 3) := by decide +kernel
theorem dX6_writeModes_105 : decode cX6_writeModes 105 = .ok (.iload 5, 2) := by decide +kernel
theorem dX6_writeModes_107 : decode cX6_writeModes 107 = .ok (.iconst 3, 1) := by decide +kernel
theorem dX6_writeModes_108 : decode cX6_writeModes 108 = .ok (.if_icmp .gt 33, 3) := by decide +kernel
theorem dX6_writeModes_111 : decode cX6_writeModes 111 = .ok (.aload_n 0, 1) := by decide +kernel
theorem dX6_writeModes_112 : decode cX6_writeModes 112 = .ok (.getfield 19, 3) := by decide +kernel
theorem dX6_writeModes_115 : decode cX6_writeModes 115 = .ok (.getstatic 89, 3) := by decide +kernel
theorem dX6_writeModes_118 : decode cX6_writeModes 118 = .ok (.iconst 5, 1) := by decide +kernel
theorem dX6_writeModes_119 : decode cX6_writeModes 119 = .ok (.iload 5, 2) := by decide +kernel
theorem dX6_writeModes_121 : decode cX6_writeModes 121 = .ok (.iadd, 1) := by decide +kernel
theorem dX6_writeModes_122 : decode cX6_writeModes 122 = .ok (.iaload, 1) := by decide +kernel
theorem dX6_writeModes_123 : decode cX6_writeModes 123 = .ok (.invokevirtual 42, 3) := by decide +kernel
theorem dX6_writeModes_126 : decode cX6_writeModes 126 = .ok (.aload_n 0, 1) := by decide +kernel
theorem dX6_writeModes_127 : decode cX6_writeModes 127 = .ok (.getfield 28, 3) := by decide +kernel
theorem dX6_writeModes_130 : decode cX6_writeModes 130 = .ok (.iload 4, 2) := by decide +kernel
theorem dX6_writeModes_132 : decode cX6_writeModes 132 = .ok (.invokevirtual 96, 3) := by decide +kernel
theorem dX6_writeModes_135 : decode cX6_writeModes 135 = .ok (.iinc 2 1, 3) := by decide +kernel
theorem dX6_writeModes_138 : decode cX6_writeModes 138 = .ok (.goto 89, 3) := by decide +kernel
theorem dX6_writeModes_141 : decode cX6_writeModes 141 = .ok (.aload_n 0, 1) := by decide +kernel
theorem dX6_writeModes_142 : decode cX6_writeModes 142 = .ok (.getfield 9, 3) := by decide +kernel
theorem dX6_writeModes_145 : decode cX6_writeModes 145 = .ok (.iload_n 1, 1) := by decide +kernel
theorem dX6_writeModes_146 : decode cX6_writeModes 146 = .ok (.iload_n 2, 1) := by decide +kernel
theorem dX6_writeModes_147 : decode cX6_writeModes 147 = .ok (.iconst 1, 1) := by decide +kernel
theorem dX6_writeModes_148 : decode cX6_writeModes 148 = .ok (.iadd, 1) := by decide +kernel
theorem dX6_writeModes_149 : decode cX6_writeModes 149 = .ok (.aload_n 0, 1) := by decide +kernel
theorem dX6_writeModes_150 : decode cX6_writeModes 150 = .ok (.getfield 15, 3) := by decide +kernel
theorem dX6_writeModes_153 : decode cX6_writeModes 153 = .ok (.invokevirtual 68, 3) := by decide +kernel
theorem dX6_writeModes_156 : decode cX6_writeModes 156 = .ok (.istore 6, 2) := by decide +kernel
theorem dX6_writeModes_158 : decode cX6_writeModes 158 = .ok (.aload_n 0, 1) := by decide +kernel
theorem dX6_writeModes_159 : decode cX6_writeModes 159 = .ok (.getfield 19, 3) := by decide +kernel
theorem dX6_writeModes_162 : decode cX6_writeModes 162 = .ok (.getstatic 89, 3) := by decide +kernel
theorem dX6_writeModes_165 : decode cX6_writeModes 165 = .ok (.iconst 1, 1) := by decide +kernel
theorem dX6_writeModes_166 : decode cX6_writeModes 166 = .ok (.iaload, 1) := by decide +kernel
theorem dX6_writeModes_167 : decode cX6_writeModes 167 = .ok (.invokevirtual 42, 3) := by decide +kernel
theorem dX6_writeModes_170 : decode cX6_writeModes 170 = .ok (.aload_n 0, 1) := by decide +kernel
theorem dX6_writeModes_171 : decode cX6_writeModes 171 = .ok (.iload 4, 2) := by decide +kernel
theorem dX6_writeModes_173 : decode cX6_writeModes 173 = .ok (.aload_n 0, 1) := by decide +kernel
theorem dX6_writeModes_174 : decode cX6_writeModes 174 = .ok (.getfield 28, 3) := by decide +kernel
theorem dX6_writeModes_177 : decode cX6_writeModes 177 = .ok (.invokevirtual 99, 3) := by decide +kernel
theorem dX6_writeModes_180 : decode cX6_writeModes 180 = .ok (.isub, 1) := by decide +kernel
theorem dX6_writeModes_181 : decode cX6_writeModes 181 = .ok (.aload_n 0, 1) := by decide +kernel
theorem dX6_writeModes_182 : decode cX6_writeModes 182 = .ok (.getfield 28, 3) := by decide +kernel
theorem dX6_writeModes_185 : decode cX6_writeModes 185 = .ok (.invokevirtual 102, 3) := by decide +kernel
theorem dX6_writeModes_188 : decode cX6_writeModes 188 = .ok (.invokevirtual 72, 3) := by decide +kernel
theorem dX6_writeModes_191 : decode cX6_writeModes 191 = .ok (.aload_n 0, 1) := by decide +kernel
theorem dX6_writeModes_192 : decode cX6_writeModes 192 = .ok (.iload 6, 2) := by decide +kernel
theorem dX6_writeModes_194 : decode cX6_writeModes 194 = .ok (.iload 4, 2) := by decide +kernel
theorem dX6_writeModes_196 : decode cX6_writeModes 196 = .ok (.isub, 1) := by decide +kernel
theorem dX6_writeModes_197 : decode cX6_writeModes 197 = .ok (.aload_n 0, 1) := by decide +kernel
theorem dX6_writeModes_198 : decode cX6_writeModes 198 = .ok (.getfield 28, 3) := by decide +kernel
theorem dX6_writeModes_201 : decode cX6_writeModes 201 = .ok (.invokevirtual 102, 3) := by decide +kernel
theorem dX6_writeModes_204 : decode cX6_writeModes 204 = .ok (.ifCond .ne 7, 3) := by decide +kernel
theorem dX6_writeModes_207 : decode cX6_writeModes 207 = .ok (.iconst 1, 1) := by decide +kernel
theorem dX6_writeModes_208 : decode cX6_writeModes 208 = .ok (.goto 4, 3) := by decide +kernel
theorem dX6_writeModes_211 : decode cX6_writeModes 211 = .ok (.iconst 0, 1) := by decide +kernel
theorem dX6_writeModes_212 : decode cX6_writeModes 212 = .ok (.invokevirtual 72, 3) := by decide +kernel
theorem dX6_writeModes_215 : decode cX6_writeModes 215 = .ok (.aload_n 0, 1) := by decide +kernel
theorem dX6_writeModes_216 : decode cX6_writeModes 216 = .ok (.getfield 28, 3) := by decide +kernel
theorem dX6_writeModes_219 : decode cX6_writeModes 219 = .ok (.iload 6, 2) := by decide +kernel
theorem dX6_writeModes_221 : decode cX6_writeModes 221 = .ok (.invokevirtual 93, 3) := by decide +kernel
theorem dX6_writeModes_224 : decode cX6_writeModes 224 = .ok (.iinc 2 2, 3) := by decide +kernel
theorem dX6_writeModes_227 : decode cX6_writeModes 227 = .ok (.iinc 3 1, 3) := by decide +kernel
theorem dX6_writeModes_230 : decode cX6_writeModes 230 = .ok (.goto (-218), 3) := by decide +kernel
theorem dX6_writeModes_233 : decode cX6_writeModes 233 = .ok (.return_, 1) := by decide +kernel
abbrev po_c_X6_writeModes (g : GG) (h0 : Nat) (r : Nat) (o : Nat) (td : Nat) (w : Int) (ba : Nat) (n : Nat) (f : Nat → Int32) (cb : Int) (pl : Int) (tu : Int) (rs : Nat) (it : Nat) (m : Nat) (c : Int) (F : Nat → Int) (fs : Nat → Int32) (fi : Nat → Int32) (t1 : Int) (t2 : Int) (t3 : Int) (t4 : Int) (x : Int) : Option Value → va_W → Nat → Nat → Prop := fun v8 w8 kc8 ks8 => ∃ b2 : Nat, ∃ n2 : Nat, ∃ f2 : Nat → Int32, ∃ c2 : Int, ∃ y1 : Int, ∃ y2 : Int, ∃ y3 : Int, ∃ y4 : Int, v8 = none ∧ w8 = [(h0, ob 6 [.ref r, .int (iI w), .ref o, .ref td]), (o, ob 0 [.ref b2, .int (iI c2), .int (iI pl), .int (iI tu)]), (b2, aB g n2 f2), (r, ob 2 [.ref rs, .ref it, .int (iI c)]), (rs, aI g 27 fs), (it, aI g m fi), (td, ob 5 [.ref r, .int (iI w), .int (iI y1), .int (iI y2), .int (iI y3), .int (iI y4)])] ∧ (ks8 + 2 * n ≤ 2 * n2 ∧ 64 * kc8 ≤ ks8 ∧ n ≤ n2 ∧ n2 ≤ 130000) ∧ (c2 ≤ 8 * (n2 : Int) ∧ cb ≤ c2) ∧ (bF f2) ∧ (c2 ≤ cb + 7 * w + 30)
set_option maxHeartbeats 4000000 in
set_option maxRecDepth 100000 in
theorem c_X6_writeModes (l : Launch) (g : GG) (h0 : Nat) (r : Nat) (o : Nat) (td : Nat) (w : Int) (ba : Nat) (n : Nat) (f : Nat → Int32) (cb : Int) (pl : Int) (tu : Int) (rs : Nat) (it : Nat) (m : Nat) (c : Int) (F : Nat → Int) (fs : Nat → Int32) (fi : Nat → Int32) (t1 : Int) (t2 : Int) (t3 : Int) (t4 : Int) (x : Int) (hp0 : 0 ≤ cb ∧ cb ≤ 8 * (n : Int) ∧ 64 ≤ n ∧ n ≤ 130000) (hp1 : bF f) (hp2 : LB c F fs m) (hp3 : RI w c F fi) (hp4 : 0 ≤ x ∧ x < c) (hp5 : 1 ≤ w ∧ w ≤ 3000) (hp6 : cb ≤ 486000) : CtE l g yX6_writeModes (wM yX6_writeModes cX6_writeModes 7 none) (rmD 5 8200 800000) [.ref h0, .int (iI x)] [(h0, ob 6 [.ref r, .int (iI w), .ref o, .ref td]), (o, ob 0 [.ref ba, .int (iI cb), .int (iI pl), .int (iI tu)]), (ba, aB g n f), (r, ob 2 [.ref rs, .ref it, .int (iI c)]), (rs, aI g 27 fs), (it, aI g m fi), (td, ob 5 [.ref r, .int (iI w), .int (iI t1), .int (iI t2), .int (iI t3), .int (iI t4)])] (po_c_X6_writeModes g h0 r o td w ba n f cb pl tu rs it m c F fs fi t1 t2 t3 t4 x) := by
  refine CtE_of (by decide +kernel) (Nat.le_of_ble_eq_true rfl) ?_
  intro p9 e9 s9 m9 ag9 bl9 mt9 c9 A9 fx hr hnm
  have hc := LB_c hp2
  have hm := LB_n hp2
  refine v_aload_n fx 0 dX6_writeModes_0 rfl rfl ?_
  refine v_get fx 0 3 inX6 k169 dX6_writeModes_1 rfl rfl (by decide) rfl rfl rfl ?_
  refine v_iload_n fx 1 dX6_writeModes_4 rfl rfl ?_
  refine v_callV (As := [.int (iI x)]) (rest := []) fx [6] [0, 1, 2, 3, 4, 5] [(td, ob 5 [.ref r, .int (iI w), .int (iI t1), .int (iI t2), .int (iI t3), .int (iI t4)])] [(h0, ob 6 [.ref r, .int (iI w), .ref o, .ref td]), (o, ob 0 [.ref ba, .int (iI cb), .int (iI pl), .int (iI tu)]), (ba, aB g n f), (r, ob 2 [.ref rs, .ref it, .int (iI c)]), (rs, aI g 27 fs), (it, aI g m fi)] 1 0 (c_X5_begin l g td r w t1 t2 t3 t4 x ) dX6_writeModes_5 k677 k678 k679 k52 k680 ykX5_begin rfl rfl rfl rfl rfl rfl rfl rfl (nl rfl) ⟨nl rfl, nl rfl⟩ ⟨(nl rfl), (nl rfl)⟩ rfl (fun v9 w9 hu => ?_)
  obtain ⟨rfl, rfl⟩ := hu
  refine v_is (wn := [(h0, ob 6 [.ref r, .int (iI w), .ref o, .ref td]), (o, ob 0 [.ref ba, .int (iI cb), .int (iI pl), .int (iI tu)]), (ba, aB g n f), (r, ob 2 [.ref rs, .ref it, .int (iI c)]), (rs, aI g 27 fs), (it, aI g m fi), (td, ob 5 [.ref r, .int (iI w), .int (iI (x - 1)), .int (iI 0), .int (iI (-1)), .int (iI 0)])]) (cn := 0) (sn := 0) (sn2 := []) rfl rfl rfl rfl ?_
  refine v_iconst fx dX6_writeModes_8 rfl ?_
  refine v_istore_n fx [(2, .int (iI 0)), (0, .ref h0), (1, .int (iI x))] dX6_writeModes_9 (by decide) rfl rfl ?_
  refine v_iconst fx dX6_writeModes_10 rfl ?_
  refine v_istore_n fx [(3, .int (iI 0)), (2, .int (iI 0)), (0, .ref h0), (1, .int (iI x))] dX6_writeModes_11 (by decide) rfl rfl ?_
  have L12 : ∀ (N : Nat) (i : Int) (k : Int) (nx : Int) (a0 : Int) (bk : Int) (b1 : Nat) (n1 : Nat) (f1 : Nat → Int32) (c1 : Int) (cl : Nat) (sl : Nat), (bF f1) → (c1 ≤ 8 * (n1 : Int) ∧ cb ≤ c1 ∧ n ≤ n1 ∧ n1 ≤ 130000 ∧ sl + 2 * n ≤ 2 * n1 ∧ 64 * cl ≤ sl) → (0 ≤ i ∧ i ≤ w + 1) → (0 ≤ k ∧ k ≤ 2 * i) → (TI F fi (x - 1) nx a0) → (TI F fi x k a0) → (0 ≤ nx ∧ nx ≤ 3000 ∧ 0 ≤ bk ∧ bk ≤ 1 ∧ -1 ≤ a0 ∧ a0 ≤ w) → (c1 ≤ cb + bgt a0 w) → ((w + 1 - i).toNat) < N → V p9 l e9 (rmD 5 8200 800000) s9 m9 ag9 bl9 mt9 c9 7 g A9 (MQE bl9 (cQE g (po_c_X6_writeModes g h0 r o td w ba n f cb pl tu rs it m c F fs fi t1 t2 t3 t4 x) A9) ag9 s9 A9) [(h0, ob 6 [.ref r, .int (iI w), .ref o, .ref td]), (o, ob 0 [.ref b1, .int (iI c1), .int (iI pl), .int (iI tu)]), (b1, aB g n1 f1), (r, ob 2 [.ref rs, .ref it, .int (iI c)]), (rs, aI g 27 fs), (it, aI g m fi), (td, ob 5 [.ref r, .int (iI w), .int (iI (x - 1)), .int (iI nx), .int (iI a0), .int (iI bk)])] cl sl [(0, .ref h0), (1, .int (iI x)), (2, .int (iI k)), (3, .int (iI i))] 12 [] := by
    intro N
    induction N with
    | zero => intro i k nx a0 bk b1 n1 f1 c1 cl sl hi12_0 hi12_1 hi12_2 hi12_3 hi12_4 hi12_5 hi12_6 hi12_7 hN; exact absurd hN (Nat.not_lt_zero _)
    | succ N ihL12 =>
      intro i k nx a0 bk b1 n1 f1 c1 cl sl hi12_0 hi12_1 hi12_2 hi12_3 hi12_4 hi12_5 hi12_6 hi12_7 hN12
      have hbl := bgt_le (a0 := a0) (w := w) (by omega) (by omega)
      refine v_iload_n fx 3 dX6_writeModes_12 rfl rfl ?_
      refine v_aload_n fx 0 dX6_writeModes_13 rfl rfl ?_
      refine v_get fx 0 1 inX6 k167 dX6_writeModes_14 rfl rfl (by decide) rfl rfl rfl ?_
      refine v_icmp_gt fx 233 dX6_writeModes_17 (by decide) rfl (by omega) (by omega) (fun h_1 => ?_) (fun h_1 => ?_)
      ·
        exact v_vretE fx [(h0, ob 6 [.ref r, .int (iI w), .ref o, .ref td]), (o, ob 0 [.ref b1, .int (iI c1), .int (iI pl), .int (iI tu)]), (b1, aB g n1 f1), (r, ob 2 [.ref rs, .ref it, .int (iI c)]), (rs, aI g 27 fs), (it, aI g m fi), (td, ob 5 [.ref r, .int (iI w), .int (iI (x - 1)), .int (iI nx), .int (iI a0), .int (iI bk)])] [0, 1, 2, 3, 4, 5, 6] hr dX6_writeModes_233 rfl rfl ⟨b1, n1, f1, c1, (x - 1), nx, a0, bk, rfl, rfl, (by first | omega | rfl | assumption), (by first | omega | rfl | assumption), (by exact hi12_0), (by first | omega | rfl | assumption)⟩
      ·
        refine v_aload_n fx 0 dX6_writeModes_20 rfl rfl ?_
        refine v_get fx 0 3 inX6 k169 dX6_writeModes_21 rfl rfl (by decide) rfl rfl rfl ?_
        refine v_callV (As := []) (rest := []) fx [6] [0, 1, 2, 3, 4, 5] [(td, ob 5 [.ref r, .int (iI w), .int (iI (x - 1)), .int (iI nx), .int (iI a0), .int (iI bk)])] [(h0, ob 6 [.ref r, .int (iI w), .ref o, .ref td]), (o, ob 0 [.ref b1, .int (iI c1), .int (iI pl), .int (iI tu)]), (b1, aB g n1 f1), (r, ob 2 [.ref rs, .ref it, .int (iI c)]), (rs, aI g 27 fs), (it, aI g m fi)] 0 0 (c_X5_isWhole l g td r w (x - 1) nx a0 bk (by first | omega | decide | assumption) (by first | omega | decide | assumption)) dX6_writeModes_24 k681 k682 k683 k52 k684 ykX5_isWhole rfl rfl rfl rfl rfl rfl rfl rfl (nl rfl) ⟨nl rfl, nl rfl⟩ ⟨(by show cl + 0 ≤ 8200; omega), (by show sl + 0 ≤ 800000; omega)⟩ rfl (fun v9 w9 hu => ?_)
        obtain ⟨q_2, rfl, rfl, u_3⟩ := hu
        refine v_is (wn := [(h0, ob 6 [.ref r, .int (iI w), .ref o, .ref td]), (o, ob 0 [.ref b1, .int (iI c1), .int (iI pl), .int (iI tu)]), (b1, aB g n1 f1), (r, ob 2 [.ref rs, .ref it, .int (iI c)]), (rs, aI g 27 fs), (it, aI g m fi), (td, ob 5 [.ref r, .int (iI w), .int (iI (x - 1)), .int (iI nx), .int (iI a0), .int (iI bk)])]) (cn := cl) (sn := sl) (sn2 := [.int (iI q_2)]) rfl rfl rfl rfl ?_
        refine v_if_ne fx 233 dX6_writeModes_27 (by decide) rfl (by omega) (fun h_4 => ?_) (fun h_4 => ?_)
        ·
          exact v_vretE fx [(h0, ob 6 [.ref r, .int (iI w), .ref o, .ref td]), (o, ob 0 [.ref b1, .int (iI c1), .int (iI pl), .int (iI tu)]), (b1, aB g n1 f1), (r, ob 2 [.ref rs, .ref it, .int (iI c)]), (rs, aI g 27 fs), (it, aI g m fi), (td, ob 5 [.ref r, .int (iI w), .int (iI (x - 1)), .int (iI nx), .int (iI a0), .int (iI bk)])] [0, 1, 2, 3, 4, 5, 6] hr dX6_writeModes_233 rfl rfl ⟨b1, n1, f1, c1, (x - 1), nx, a0, bk, rfl, rfl, (by first | omega | rfl | assumption), (by first | omega | rfl | assumption), (by exact hi12_0), (by first | omega | rfl | assumption)⟩
        ·
          have ha1 := a1_of hp3 hp4 hi12_5 (by omega) (by omega) (by omega)
          refine v_aload_n fx 0 dX6_writeModes_30 rfl rfl ?_
          refine v_get fx 0 0 inX6 k166 dX6_writeModes_31 rfl rfl (by decide) rfl rfl rfl ?_
          refine v_iload_n fx 1 dX6_writeModes_34 rfl rfl ?_
          refine v_iload_n fx 2 dX6_writeModes_35 rfl rfl ?_
          refine v_aload_n fx 0 dX6_writeModes_36 rfl rfl ?_
          refine v_get fx 0 1 inX6 k167 dX6_writeModes_37 rfl rfl (by decide) rfl rfl rfl ?_
          refine v_callV (As := [.int (iI x), .int (iI k), .int (iI w)]) (rest := []) fx [3, 4, 5] [0, 1, 2, 6] [(r, ob 2 [.ref rs, .ref it, .int (iI c)]), (rs, aI g 27 fs), (it, aI g m fi)] [(h0, ob 6 [.ref r, .int (iI w), .ref o, .ref td]), (o, ob 0 [.ref b1, .int (iI c1), .int (iI pl), .int (iI tu)]), (b1, aB g n1 f1), (td, ob 5 [.ref r, .int (iI w), .int (iI (x - 1)), .int (iI nx), .int (iI a0), .int (iI bk)])] 3 0 (c_X2_item l g r rs it m c F fs fi x k w (by first | omega | decide | assumption) (by omega) (by omega) (by omega)) dX6_writeModes_40 k685 k686 k687 k49 k688 ykX2_item rfl rfl rfl rfl rfl rfl rfl rfl (nl rfl) ⟨nl rfl, nl rfl⟩ ⟨(by show cl + 0 ≤ 8200; omega), (by show sl + 0 ≤ 800000; omega)⟩ rfl (fun v9 w9 hu => ?_)
          obtain ⟨a1, rfl, rfl, u_5, u_6⟩ := hu
          refine v_is (wn := [(h0, ob 6 [.ref r, .int (iI w), .ref o, .ref td]), (o, ob 0 [.ref b1, .int (iI c1), .int (iI pl), .int (iI tu)]), (b1, aB g n1 f1), (td, ob 5 [.ref r, .int (iI w), .int (iI (x - 1)), .int (iI nx), .int (iI a0), .int (iI bk)]), (r, ob 2 [.ref rs, .ref it, .int (iI c)]), (rs, aI g 27 fs), (it, aI g m fi)]) (cn := cl) (sn := sl) (sn2 := [.int (iI a1)]) rfl rfl rfl rfl ?_
          rw [← u_5] at ha1
          have hea := u_5
          refine v_istore fx [(4, .int (iI a1)), (0, .ref h0), (1, .int (iI x)), (2, .int (iI k)), (3, .int (iI i))] dX6_writeModes_43 (by decide) rfl rfl ?_
          refine v_iload fx 0 dX6_writeModes_45 rfl rfl ?_
          refine v_aload_n fx 1 dX6_writeModes_47 rfl rfl ?_
          refine v_get fx 0 3 inX6 k169 dX6_writeModes_48 rfl rfl (by decide) rfl rfl rfl ?_
          refine v_callV (As := []) (rest := [.int (iI a1)]) fx [3, 4, 5, 6] [0, 1, 2] [(td, ob 5 [.ref r, .int (iI w), .int (iI (x - 1)), .int (iI nx), .int (iI a0), .int (iI bk)]), (r, ob 2 [.ref rs, .ref it, .int (iI c)]), (rs, aI g 27 fs), (it, aI g m fi)] [(h0, ob 6 [.ref r, .int (iI w), .ref o, .ref td]), (o, ob 0 [.ref b1, .int (iI c1), .int (iI pl), .int (iI tu)]), (b1, aB g n1 f1)] 0 0 (c_X5_b1 l g td r w (x - 1) nx a0 bk rs it m c F fs fi (by exact hp2) (by exact hp3) (by omega) (by omega) (by exact hi12_4) (by first | omega | decide | assumption) (by first | omega | decide | assumption) (by first | omega | decide | assumption)) dX6_writeModes_51 k689 k690 k691 k52 k692 ykX5_b1 rfl rfl rfl rfl rfl rfl rfl rfl (nl rfl) ⟨nl rfl, nl rfl⟩ ⟨(by show cl + 0 ≤ 8200; omega), (by show sl + 0 ≤ 800000; omega)⟩ rfl (fun v9 w9 hu => ?_)
          obtain ⟨q1, rfl, rfl, u_7, u_8, u_9⟩ := hu
          refine v_is (wn := [(h0, ob 6 [.ref r, .int (iI w), .ref o, .ref td]), (o, ob 0 [.ref b1, .int (iI c1), .int (iI pl), .int (iI tu)]), (b1, aB g n1 f1), (td, ob 5 [.ref r, .int (iI w), .int (iI (x - 1)), .int (iI nx), .int (iI a0), .int (iI bk)]), (r, ob 2 [.ref rs, .ref it, .int (iI c)]), (rs, aI g 27 fs), (it, aI g m fi)]) (cn := cl) (sn := sl) (sn2 := [.int (iI q1), .int (iI a1)]) rfl rfl rfl rfl ?_
          refine v_isub fx (a1 - q1) dX6_writeModes_54 (by rfl) rfl ?_
          refine v_istore fx [(5, .int (iI (a1 - q1))), (4, .int (iI a1)), (0, .ref h0), (1, .int (iI x)), (2, .int (iI k)), (3, .int (iI i))] dX6_writeModes_55 (by decide) rfl rfl ?_
          refine v_aload_n fx 2 dX6_writeModes_57 rfl rfl ?_
          refine v_get fx 0 3 inX6 k169 dX6_writeModes_58 rfl rfl (by decide) rfl rfl rfl ?_
          refine v_callV (As := []) (rest := []) fx [3, 4, 5, 6] [0, 1, 2] [(td, ob 5 [.ref r, .int (iI w), .int (iI (x - 1)), .int (iI nx), .int (iI a0), .int (iI bk)]), (r, ob 2 [.ref rs, .ref it, .int (iI c)]), (rs, aI g 27 fs), (it, aI g m fi)] [(h0, ob 6 [.ref r, .int (iI w), .ref o, .ref td]), (o, ob 0 [.ref b1, .int (iI c1), .int (iI pl), .int (iI tu)]), (b1, aB g n1 f1)] 0 0 (c_X5_b2 l g td r w (x - 1) nx a0 bk rs it m c F fs fi (by exact hp2) (by exact hp3) (by omega) (by omega) (by exact hi12_4) (by first | omega | decide | assumption) (by first | omega | decide | assumption) (by first | omega | decide | assumption)) dX6_writeModes_61 k698 k699 k700 k52 k701 ykX5_b2 rfl rfl rfl rfl rfl rfl rfl rfl (nl rfl) ⟨nl rfl, nl rfl⟩ ⟨(by show cl + 0 ≤ 8200; omega), (by show sl + 0 ≤ 800000; omega)⟩ rfl (fun v9 w9 hu => ?_)
          obtain ⟨q2, rfl, rfl, u_10, u_11, u_12⟩ := hu
          refine v_is (wn := [(h0, ob 6 [.ref r, .int (iI w), .ref o, .ref td]), (o, ob 0 [.ref b1, .int (iI c1), .int (iI pl), .int (iI tu)]), (b1, aB g n1 f1), (td, ob 5 [.ref r, .int (iI w), .int (iI (x - 1)), .int (iI nx), .int (iI a0), .int (iI bk)]), (r, ob 2 [.ref rs, .ref it, .int (iI c)]), (rs, aI g 27 fs), (it, aI g m fi)]) (cn := cl) (sn := sl) (sn2 := [.int (iI q2)]) rfl rfl rfl rfl ?_
          have hq2 := u_10
          refine v_iload fx 1 dX6_writeModes_64 rfl rfl ?_
          refine v_icmp_ge fx 98 dX6_writeModes_66 (by decide) rfl (by omega) (by omega) (fun h_13 => ?_) (fun h_13 => ?_)
          ·
            refine v_iload fx 0 dX6_writeModes_98 rfl rfl ?_
            refine v_bipush fx dX6_writeModes_100 (by decide +kernel) rfl ?_
            refine v_icmp_lt fx 141 dX6_writeModes_102 (by decide) rfl (by omega) (by omega) (fun h_14 => ?_) (fun h_14 => ?_)
            ·
              refine v_aload_n fx 2 dX6_writeModes_141 rfl rfl ?_
              refine v_get fx 0 0 inX6 k166 dX6_writeModes_142 rfl rfl (by decide) rfl rfl rfl ?_
              refine v_iload_n fx 3 dX6_writeModes_145 rfl rfl ?_
              refine v_iload_n fx 4 dX6_writeModes_146 rfl rfl ?_
              refine v_iconst fx dX6_writeModes_147 rfl ?_
              refine v_iadd fx (k + 1) dX6_writeModes_148 (by rfl) rfl ?_
              refine v_aload_n fx 2 dX6_writeModes_149 rfl rfl ?_
              refine v_get fx 0 1 inX6 k167 dX6_writeModes_150 rfl rfl (by decide) rfl rfl rfl ?_
              refine v_callV (As := [.int (iI x), .int (iI (k + 1)), .int (iI w)]) (rest := []) fx [4, 5, 6] [0, 1, 2, 3] [(r, ob 2 [.ref rs, .ref it, .int (iI c)]), (rs, aI g 27 fs), (it, aI g m fi)] [(h0, ob 6 [.ref r, .int (iI w), .ref o, .ref td]), (o, ob 0 [.ref b1, .int (iI c1), .int (iI pl), .int (iI tu)]), (b1, aB g n1 f1), (td, ob 5 [.ref r, .int (iI w), .int (iI (x - 1)), .int (iI nx), .int (iI a0), .int (iI bk)])] 3 0 (c_X2_item l g r rs it m c F fs fi x (k + 1) w (by first | omega | decide | assumption) (by omega) (by omega) (by omega)) dX6_writeModes_153 k685 k686 k687 k49 k688 ykX2_item rfl rfl rfl rfl rfl rfl rfl rfl (nl rfl) ⟨nl rfl, nl rfl⟩ ⟨(by show cl + 0 ≤ 8200; omega), (by show sl + 0 ≤ 800000; omega)⟩ rfl (fun v9 w9 hu => ?_)
              obtain ⟨a2, rfl, rfl, u_15, u_16⟩ := hu
              refine v_is (wn := [(h0, ob 6 [.ref r, .int (iI w), .ref o, .ref td]), (o, ob 0 [.ref b1, .int (iI c1), .int (iI pl), .int (iI tu)]), (b1, aB g n1 f1), (td, ob 5 [.ref r, .int (iI w), .int (iI (x - 1)), .int (iI nx), .int (iI a0), .int (iI bk)]), (r, ob 2 [.ref rs, .ref it, .int (iI c)]), (rs, aI g 27 fs), (it, aI g m fi)]) (cn := cl) (sn := sl) (sn2 := [.int (iI a2)]) rfl rfl rfl rfl ?_
              have ha2 := a2_of hp3 hp4 hi12_5 (by omega) (by omega)
              rw [← hea, ← u_15] at ha2
              have hTx : TI F fi x (k + 2) a2 := by
                have h1 := TI_next hp3 hp4 (TI_next hp3 hp4 hi12_5 (by omega)) (by omega)
                rw [← u_15, show k + 1 + 1 = k + 2 by omega] at h1
                exact h1
              refine v_istore fx [(6, .int (iI a2)), (5, .int (iI (a1 - q1))), (4, .int (iI a1)), (0, .ref h0), (1, .int (iI x)), (2, .int (iI k)), (3, .int (iI i))] dX6_writeModes_156 (by decide) rfl rfl ?_
              refine v_aload_n fx 3 dX6_writeModes_158 rfl rfl ?_
              refine v_get fx 0 2 inX6 k168 dX6_writeModes_159 rfl rfl (by decide) rfl rfl rfl ?_
              refine v_getsN fx 3 (by decide) n702 dX6_writeModes_162 rfl ?_
              refine v_iconst fx dX6_writeModes_165 rfl ?_
              refine v_tald fx 3 (by first | decide | omega) (by first | decide | omega) dX6_writeModes_166 rfl ?_
              refine v_any (fun z_17 hz_17 ez_17 => ?_)
              have htm := tabm_at (x := 1) (by omega) ez_17 hz_17
              refine v_callVE (As := [.int (iI z_17)]) (rest := []) fx [1, 2] [0, 3, 4, 5, 6] [(o, ob 0 [.ref b1, .int (iI c1), .int (iI pl), .int (iI tu)]), (b1, aB g n1 f1)] [(h0, ob 6 [.ref r, .int (iI w), .ref o, .ref td]), (td, ob 5 [.ref r, .int (iI w), .int (iI (x - 1)), .int (iI nx), .int (iI a0), .int (iI bk)]), (r, ob 2 [.ref rs, .ref it, .int (iI c)]), (rs, aI g 27 fs), (it, aI g m fi)] 1 0 (c_X0_addCode l g o b1 n1 f1 c1 pl tu z_17 (by first | omega | decide | assumption) (by first | assumption | exact hp1) (by first | omega | decide | assumption) (by first | omega | decide | assumption)) dX6_writeModes_167 k703 k704 k705 k50 k706 ykX0_addCode rfl rfl rfl rfl rfl rfl rfl rfl (nl rfl) ⟨nl rfl, nl rfl⟩ ⟨(by show cl + 1 ≤ 8200; omega), (by show sl + 260000 ≤ 800000; omega)⟩ rfl (fun v9 w9 kc_18 ks_19 hu => ?_)
              obtain ⟨b2_20, n2_21, f2_22, cm, rfl, rfl, u_23, u_24, u_25, u_26, u_27⟩ := hu
              refine v_is (wn := [(h0, ob 6 [.ref r, .int (iI w), .ref o, .ref td]), (td, ob 5 [.ref r, .int (iI w), .int (iI (x - 1)), .int (iI nx), .int (iI a0), .int (iI bk)]), (r, ob 2 [.ref rs, .ref it, .int (iI c)]), (rs, aI g 27 fs), (it, aI g m fi), (o, ob 0 [.ref b2_20, .int (iI cm), .int (iI pl), .int (iI tu)]), (b2_20, aB g n2_21 f2_22)]) (cn := cl + kc_18) (sn := sl + ks_19) (sn2 := []) rfl rfl rfl rfl ?_
              refine v_aload_n fx 3 dX6_writeModes_170 rfl rfl ?_
              refine v_iload fx 2 dX6_writeModes_171 rfl rfl ?_
              refine v_aload_n fx 3 dX6_writeModes_173 rfl rfl ?_
              refine v_get fx 0 3 inX6 k169 dX6_writeModes_174 rfl rfl (by decide) rfl rfl rfl ?_
              refine v_callV (As := []) (rest := [.int (iI a1), .ref h0]) fx [1] [0, 2, 3, 4, 5, 6] [(td, ob 5 [.ref r, .int (iI w), .int (iI (x - 1)), .int (iI nx), .int (iI a0), .int (iI bk)])] [(h0, ob 6 [.ref r, .int (iI w), .ref o, .ref td]), (r, ob 2 [.ref rs, .ref it, .int (iI c)]), (rs, aI g 27 fs), (it, aI g m fi), (o, ob 0 [.ref b2_20, .int (iI cm), .int (iI pl), .int (iI tu)]), (b2_20, aB g n2_21 f2_22)] 0 0 (c_X5_runStart l g td r w (x - 1) nx a0 bk (by first | omega | decide | assumption)) dX6_writeModes_177 k727 k728 k729 k52 k730 ykX5_runStart rfl rfl rfl rfl rfl rfl rfl rfl (nl rfl) ⟨nl rfl, nl rfl⟩ ⟨(by show (cl + kc_18) + 0 ≤ 8200; omega), (by show (sl + ks_19) + 0 ≤ 800000; omega)⟩ rfl (fun v9 w9 hu => ?_)
              obtain ⟨rs0, rfl, rfl, u_28⟩ := hu
              refine v_is (wn := [(h0, ob 6 [.ref r, .int (iI w), .ref o, .ref td]), (r, ob 2 [.ref rs, .ref it, .int (iI c)]), (rs, aI g 27 fs), (it, aI g m fi), (o, ob 0 [.ref b2_20, .int (iI cm), .int (iI pl), .int (iI tu)]), (b2_20, aB g n2_21 f2_22), (td, ob 5 [.ref r, .int (iI w), .int (iI (x - 1)), .int (iI nx), .int (iI a0), .int (iI bk)])]) (cn := cl + kc_18) (sn := sl + ks_19) (sn2 := [.int (iI rs0), .int (iI a1), .ref h0]) rfl rfl rfl rfl ?_
              have hrs := u_28
              refine v_isub fx (a1 - rs0) dX6_writeModes_180 (by rfl) rfl ?_
              refine v_aload_n fx 3 dX6_writeModes_181 rfl rfl ?_
              refine v_get fx 0 3 inX6 k169 dX6_writeModes_182 rfl rfl (by decide) rfl rfl rfl ?_
              refine v_callV (As := []) (rest := [.int (iI (a1 - rs0)), .ref h0]) fx [6] [0, 1, 2, 3, 4, 5] [(td, ob 5 [.ref r, .int (iI w), .int (iI (x - 1)), .int (iI nx), .int (iI a0), .int (iI bk)])] [(h0, ob 6 [.ref r, .int (iI w), .ref o, .ref td]), (r, ob 2 [.ref rs, .ref it, .int (iI c)]), (rs, aI g 27 fs), (it, aI g m fi), (o, ob 0 [.ref b2_20, .int (iI cm), .int (iI pl), .int (iI tu)]), (b2_20, aB g n2_21 f2_22)] 0 0 (c_X5_isBlack l g td r w (x - 1) nx a0 bk (by first | omega | decide | assumption)) dX6_writeModes_185 k732 k733 k734 k52 k735 ykX5_isBlack rfl rfl rfl rfl rfl rfl rfl rfl (nl rfl) ⟨nl rfl, nl rfl⟩ ⟨(by show (cl + kc_18) + 0 ≤ 8200; omega), (by show (sl + ks_19) + 0 ≤ 800000; omega)⟩ rfl (fun v9 w9 hu => ?_)
              obtain ⟨rfl, rfl⟩ := hu
              refine v_is (wn := [(h0, ob 6 [.ref r, .int (iI w), .ref o, .ref td]), (r, ob 2 [.ref rs, .ref it, .int (iI c)]), (rs, aI g 27 fs), (it, aI g m fi), (o, ob 0 [.ref b2_20, .int (iI cm), .int (iI pl), .int (iI tu)]), (b2_20, aB g n2_21 f2_22), (td, ob 5 [.ref r, .int (iI w), .int (iI (x - 1)), .int (iI nx), .int (iI a0), .int (iI bk)])]) (cn := cl + kc_18) (sn := sl + ks_19) (sn2 := [.int (iI bk), .int (iI (a1 - rs0)), .ref h0]) rfl rfl rfl rfl ?_
              refine v_callVE (As := [.int (iI (a1 - rs0)), .int (iI bk)]) (rest := []) fx [0, 4, 5] [1, 2, 3, 6] [(h0, ob 6 [.ref r, .int (iI w), .ref o, .ref td]), (o, ob 0 [.ref b2_20, .int (iI cm), .int (iI pl), .int (iI tu)]), (b2_20, aB g n2_21 f2_22)] [(r, ob 2 [.ref rs, .ref it, .int (iI c)]), (rs, aI g 27 fs), (it, aI g m fi), (td, ob 5 [.ref r, .int (iI w), .int (iI (x - 1)), .int (iI nx), .int (iI a0), .int (iI bk)])] 2 0 (c_X6_writeRun l g h0 r o td w b2_20 n2_21 f2_22 cm pl tu (a1 - rs0) bk (by first | omega | decide | assumption) (by assumption) (by first | omega | decide | assumption) (by first | omega | decide | assumption) (by first | omega | decide | assumption)) dX6_writeModes_188 k736 k738 k9 k51 k739 ykX6_writeRun rfl rfl rfl rfl rfl rfl rfl rfl (nl rfl) ⟨nl rfl, nl rfl⟩ ⟨(by show (cl + kc_18) + 4070 ≤ 8200; omega), (by show (sl + ks_19) + 530000 ≤ 800000; omega)⟩ rfl (fun v9 w9 kc_29 ks_30 hu => ?_)
              obtain ⟨b2_31, n2_32, f2_33, cn1, rfl, rfl, u_34, u_35, u_36, u_37⟩ := hu
              refine v_is (wn := [(r, ob 2 [.ref rs, .ref it, .int (iI c)]), (rs, aI g 27 fs), (it, aI g m fi), (td, ob 5 [.ref r, .int (iI w), .int (iI (x - 1)), .int (iI nx), .int (iI a0), .int (iI bk)]), (h0, ob 6 [.ref r, .int (iI w), .ref o, .ref td]), (o, ob 0 [.ref b2_31, .int (iI cn1), .int (iI pl), .int (iI tu)]), (b2_31, aB g n2_32 f2_33)]) (cn := cl + kc_18 + kc_29) (sn := sl + ks_19 + ks_30) (sn2 := []) rfl rfl rfl rfl ?_
              have hw1 := u_37
              have hbr := bgt_run (k1 := cn1 - cm) (bk := bk) (w := w) (by omega) hrs ha1 (by omega) (by omega)
              refine v_aload_n fx 3 dX6_writeModes_191 rfl rfl ?_
              refine v_iload fx 0 dX6_writeModes_192 rfl rfl ?_
              refine v_iload fx 2 dX6_writeModes_194 rfl rfl ?_
              refine v_isub fx (a2 - a1) dX6_writeModes_196 (by rfl) rfl ?_
              refine v_aload_n fx 3 dX6_writeModes_197 rfl rfl ?_
              refine v_get fx 4 3 inX6 k169 dX6_writeModes_198 rfl rfl (by decide) rfl rfl rfl ?_
              refine v_callV (As := []) (rest := [.int (iI (a2 - a1)), .ref h0]) fx [3] [0, 1, 2, 4, 5, 6] [(td, ob 5 [.ref r, .int (iI w), .int (iI (x - 1)), .int (iI nx), .int (iI a0), .int (iI bk)])] [(r, ob 2 [.ref rs, .ref it, .int (iI c)]), (rs, aI g 27 fs), (it, aI g m fi), (h0, ob 6 [.ref r, .int (iI w), .ref o, .ref td]), (o, ob 0 [.ref b2_31, .int (iI cn1), .int (iI pl), .int (iI tu)]), (b2_31, aB g n2_32 f2_33)] 0 0 (c_X5_isBlack l g td r w (x - 1) nx a0 bk (by first | omega | decide | assumption)) dX6_writeModes_201 k732 k733 k734 k52 k735 ykX5_isBlack rfl rfl rfl rfl rfl rfl rfl rfl (nl rfl) ⟨nl rfl, nl rfl⟩ ⟨(by show (cl + kc_18 + kc_29) + 0 ≤ 8200; omega), (by show (sl + ks_19 + ks_30) + 0 ≤ 800000; omega)⟩ rfl (fun v9 w9 hu => ?_)
              obtain ⟨rfl, rfl⟩ := hu
              refine v_is (wn := [(r, ob 2 [.ref rs, .ref it, .int (iI c)]), (rs, aI g 27 fs), (it, aI g m fi), (h0, ob 6 [.ref r, .int (iI w), .ref o, .ref td]), (o, ob 0 [.ref b2_31, .int (iI cn1), .int (iI pl), .int (iI tu)]), (b2_31, aB g n2_32 f2_33), (td, ob 5 [.ref r, .int (iI w), .int (iI (x - 1)), .int (iI nx), .int (iI a0), .int (iI bk)])]) (cn := cl + kc_18 + kc_29) (sn := sl + ks_19 + ks_30) (sn2 := [.int (iI bk), .int (iI (a2 - a1)), .ref h0]) rfl rfl rfl rfl ?_
              refine v_if_ne fx 211 dX6_writeModes_204 (by decide) rfl (by omega) (fun h_38 => ?_) (fun h_38 => ?_)
              ·
                refine v_iconst fx dX6_writeModes_211 rfl ?_
                refine v_callVE (As := [.int (iI (a2 - a1)), .int (iI 0)]) (rest := []) fx [3, 4, 5] [0, 1, 2, 6] [(h0, ob 6 [.ref r, .int (iI w), .ref o, .ref td]), (o, ob 0 [.ref b2_31, .int (iI cn1), .int (iI pl), .int (iI tu)]), (b2_31, aB g n2_32 f2_33)] [(r, ob 2 [.ref rs, .ref it, .int (iI c)]), (rs, aI g 27 fs), (it, aI g m fi), (td, ob 5 [.ref r, .int (iI w), .int (iI (x - 1)), .int (iI nx), .int (iI a0), .int (iI bk)])] 2 0 (c_X6_writeRun l g h0 r o td w b2_31 n2_32 f2_33 cn1 pl tu (a2 - a1) 0 (by first | omega | decide | assumption) (by assumption) (by first | omega | decide | assumption) (by first | omega | decide | assumption) (by first | omega | decide | assumption)) dX6_writeModes_212 k736 k738 k9 k51 k739 ykX6_writeRun rfl rfl rfl rfl rfl rfl rfl rfl (nl rfl) ⟨nl rfl, nl rfl⟩ ⟨(by show (cl + kc_18 + kc_29) + 4070 ≤ 8200; omega), (by show (sl + ks_19 + ks_30) + 530000 ≤ 800000; omega)⟩ rfl (fun v9 w9 kc_39 ks_40 hu => ?_)
                obtain ⟨b2_41, n2_42, f2_43, cn2, rfl, rfl, u_44, u_45, u_46, u_47⟩ := hu
                refine v_is (wn := [(r, ob 2 [.ref rs, .ref it, .int (iI c)]), (rs, aI g 27 fs), (it, aI g m fi), (td, ob 5 [.ref r, .int (iI w), .int (iI (x - 1)), .int (iI nx), .int (iI a0), .int (iI bk)]), (h0, ob 6 [.ref r, .int (iI w), .ref o, .ref td]), (o, ob 0 [.ref b2_41, .int (iI cn2), .int (iI pl), .int (iI tu)]), (b2_41, aB g n2_42 f2_43)]) (cn := cl + kc_18 + kc_29 + kc_39) (sn := sl + ks_19 + ks_30 + ks_40) (sn2 := []) rfl rfl rfl rfl ?_
                have hw2 := u_47
                refine v_aload_n fx 3 dX6_writeModes_215 rfl rfl ?_
                refine v_get fx 4 3 inX6 k169 dX6_writeModes_216 rfl rfl (by decide) rfl rfl rfl ?_
                refine v_iload fx 0 dX6_writeModes_219 rfl rfl ?_
                refine v_callV (As := [.int (iI a2)]) (rest := []) fx [3, 0, 1, 2] [4, 5, 6] [(td, ob 5 [.ref r, .int (iI w), .int (iI (x - 1)), .int (iI nx), .int (iI a0), .int (iI bk)]), (r, ob 2 [.ref rs, .ref it, .int (iI c)]), (rs, aI g 27 fs), (it, aI g m fi)] [(h0, ob 6 [.ref r, .int (iI w), .ref o, .ref td]), (o, ob 0 [.ref b2_41, .int (iI cn2), .int (iI pl), .int (iI tu)]), (b2_41, aB g n2_42 f2_43)] 1 0 (c_X5_moveTo l g td r w (x - 1) nx a0 bk rs it m c F fs fi a2 (by exact hp2) (by exact hp3) (by first | omega | decide | assumption) (by first | omega | decide | assumption) (by first | omega | decide | assumption) (by first | omega | decide | assumption)) dX6_writeModes_221 k714 k715 k716 k52 k717 ykX5_moveTo rfl rfl rfl rfl rfl rfl rfl rfl (nl rfl) ⟨nl rfl, nl rfl⟩ ⟨(by show (cl + kc_18 + kc_29 + kc_39) + 0 ≤ 8200; omega), (by show (sl + ks_19 + ks_30 + ks_40) + 0 ≤ 800000; omega)⟩ rfl (fun v9 w9 hu => ?_)
                obtain ⟨x2_48, rfl, rfl, u_49, u_50⟩ := hu
                refine v_is (wn := [(h0, ob 6 [.ref r, .int (iI w), .ref o, .ref td]), (o, ob 0 [.ref b2_41, .int (iI cn2), .int (iI pl), .int (iI tu)]), (b2_41, aB g n2_42 f2_43), (td, ob 5 [.ref r, .int (iI w), .int (iI (x - 1)), .int (iI x2_48), .int (iI a2), .int (iI bk)]), (r, ob 2 [.ref rs, .ref it, .int (iI c)]), (rs, aI g 27 fs), (it, aI g m fi)]) (cn := cl + kc_18 + kc_29 + kc_39) (sn := sl + ks_19 + ks_30 + ks_40) (sn2 := []) rfl rfl rfl rfl ?_
                have hbt := bgt_hor (k1 := cn1 - cm) (k2 := cn2 - cn1) (bk := bk) (by omega) hrs ha1 ha2 (by omega) (by omega) (by omega)
                refine v_iinc fx 5 (k + 2) [(2, .int (iI (k + 2))), (6, .int (iI a2)), (5, .int (iI (a1 - q1))), (4, .int (iI a1)), (0, .ref h0), (1, .int (iI x)), (3, .int (iI i))] dX6_writeModes_224 rfl (by omega) (by decide) rfl rfl ?_
                refine v_iinc fx 6 (i + 1) [(3, .int (iI (i + 1))), (2, .int (iI (k + 2))), (6, .int (iI a2)), (5, .int (iI (a1 - q1))), (4, .int (iI a1)), (0, .ref h0), (1, .int (iI x))] dX6_writeModes_227 rfl (by omega) (by decide) rfl rfl ?_
                refine v_goto fx 12 dX6_writeModes_230 (by decide) ?_
                refine v_ws [0, 1, 2, 4, 5, 6, 3] [(h0, ob 6 [.ref r, .int (iI w), .ref o, .ref td]), (o, ob 0 [.ref b2_41, .int (iI cn2), .int (iI pl), .int (iI tu)]), (b2_41, aB g n2_42 f2_43), (r, ob 2 [.ref rs, .ref it, .int (iI c)]), (rs, aI g 27 fs), (it, aI g m fi), (td, ob 5 [.ref r, .int (iI w), .int (iI (x - 1)), .int (iI x2_48), .int (iI a2), .int (iI bk)])] rfl rfl ?_
                refine v_lv [5, 6, 1, 0] [(0, .ref h0), (1, .int (iI x)), (2, .int (iI (k + 2))), (3, .int (iI (i + 1)))] rfl ?_
                exact ihL12 (i + 1) (k + 2) x2_48 a2 bk b2_41 n2_42 f2_43 cn2 (cl + kc_18 + kc_29 + kc_39) (sl + ks_19 + ks_30 + ks_40) (by assumption) (by omega) (by omega) (by omega) (by assumption) (by assumption) (by omega) (by omega) (by omega)
              ·
                refine v_iconst fx dX6_writeModes_207 rfl ?_
                refine v_goto fx 212 dX6_writeModes_208 (by decide) ?_
                refine v_callVE (As := [.int (iI (a2 - a1)), .int (iI 1)]) (rest := []) fx [3, 4, 5] [0, 1, 2, 6] [(h0, ob 6 [.ref r, .int (iI w), .ref o, .ref td]), (o, ob 0 [.ref b2_31, .int (iI cn1), .int (iI pl), .int (iI tu)]), (b2_31, aB g n2_32 f2_33)] [(r, ob 2 [.ref rs, .ref it, .int (iI c)]), (rs, aI g 27 fs), (it, aI g m fi), (td, ob 5 [.ref r, .int (iI w), .int (iI (x - 1)), .int (iI nx), .int (iI a0), .int (iI bk)])] 2 0 (c_X6_writeRun l g h0 r o td w b2_31 n2_32 f2_33 cn1 pl tu (a2 - a1) 1 (by first | omega | decide | assumption) (by assumption) (by first | omega | decide | assumption) (by first | omega | decide | assumption) (by first | omega | decide | assumption)) dX6_writeModes_212 k736 k738 k9 k51 k739 ykX6_writeRun rfl rfl rfl rfl rfl rfl rfl rfl (nl rfl) ⟨nl rfl, nl rfl⟩ ⟨(by show (cl + kc_18 + kc_29) + 4070 ≤ 8200; omega), (by show (sl + ks_19 + ks_30) + 530000 ≤ 800000; omega)⟩ rfl (fun v9 w9 kc_51 ks_52 hu => ?_)
                obtain ⟨b2_53, n2_54, f2_55, cn2, rfl, rfl, u_56, u_57, u_58, u_59⟩ := hu
                refine v_is (wn := [(r, ob 2 [.ref rs, .ref it, .int (iI c)]), (rs, aI g 27 fs), (it, aI g m fi), (td, ob 5 [.ref r, .int (iI w), .int (iI (x - 1)), .int (iI nx), .int (iI a0), .int (iI bk)]), (h0, ob 6 [.ref r, .int (iI w), .ref o, .ref td]), (o, ob 0 [.ref b2_53, .int (iI cn2), .int (iI pl), .int (iI tu)]), (b2_53, aB g n2_54 f2_55)]) (cn := cl + kc_18 + kc_29 + kc_51) (sn := sl + ks_19 + ks_30 + ks_52) (sn2 := []) rfl rfl rfl rfl ?_
                have hw2 := u_59
                refine v_aload_n fx 3 dX6_writeModes_215 rfl rfl ?_
                refine v_get fx 4 3 inX6 k169 dX6_writeModes_216 rfl rfl (by decide) rfl rfl rfl ?_
                refine v_iload fx 0 dX6_writeModes_219 rfl rfl ?_
                refine v_callV (As := [.int (iI a2)]) (rest := []) fx [3, 0, 1, 2] [4, 5, 6] [(td, ob 5 [.ref r, .int (iI w), .int (iI (x - 1)), .int (iI nx), .int (iI a0), .int (iI bk)]), (r, ob 2 [.ref rs, .ref it, .int (iI c)]), (rs, aI g 27 fs), (it, aI g m fi)] [(h0, ob 6 [.ref r, .int (iI w), .ref o, .ref td]), (o, ob 0 [.ref b2_53, .int (iI cn2), .int (iI pl), .int (iI tu)]), (b2_53, aB g n2_54 f2_55)] 1 0 (c_X5_moveTo l g td r w (x - 1) nx a0 bk rs it m c F fs fi a2 (by exact hp2) (by exact hp3) (by first | omega | decide | assumption) (by first | omega | decide | assumption) (by first | omega | decide | assumption) (by first | omega | decide | assumption)) dX6_writeModes_221 k714 k715 k716 k52 k717 ykX5_moveTo rfl rfl rfl rfl rfl rfl rfl rfl (nl rfl) ⟨nl rfl, nl rfl⟩ ⟨(by show (cl + kc_18 + kc_29 + kc_51) + 0 ≤ 8200; omega), (by show (sl + ks_19 + ks_30 + ks_52) + 0 ≤ 800000; omega)⟩ rfl (fun v9 w9 hu => ?_)
                obtain ⟨x2_60, rfl, rfl, u_61, u_62⟩ := hu
                refine v_is (wn := [(h0, ob 6 [.ref r, .int (iI w), .ref o, .ref td]), (o, ob 0 [.ref b2_53, .int (iI cn2), .int (iI pl), .int (iI tu)]), (b2_53, aB g n2_54 f2_55), (td, ob 5 [.ref r, .int (iI w), .int (iI (x - 1)), .int (iI x2_60), .int (iI a2), .int (iI bk)]), (r, ob 2 [.ref rs, .ref it, .int (iI c)]), (rs, aI g 27 fs), (it, aI g m fi)]) (cn := cl + kc_18 + kc_29 + kc_51) (sn := sl + ks_19 + ks_30 + ks_52) (sn2 := []) rfl rfl rfl rfl ?_
                have hbt := bgt_hor (k1 := cn1 - cm) (k2 := cn2 - cn1) (bk := bk) (by omega) hrs ha1 ha2 (by omega) (by omega) (by omega)
                refine v_iinc fx 5 (k + 2) [(2, .int (iI (k + 2))), (6, .int (iI a2)), (5, .int (iI (a1 - q1))), (4, .int (iI a1)), (0, .ref h0), (1, .int (iI x)), (3, .int (iI i))] dX6_writeModes_224 rfl (by omega) (by decide) rfl rfl ?_
                refine v_iinc fx 6 (i + 1) [(3, .int (iI (i + 1))), (2, .int (iI (k + 2))), (6, .int (iI a2)), (5, .int (iI (a1 - q1))), (4, .int (iI a1)), (0, .ref h0), (1, .int (iI x))] dX6_writeModes_227 rfl (by omega) (by decide) rfl rfl ?_
                refine v_goto fx 12 dX6_writeModes_230 (by decide) ?_
                refine v_ws [0, 1, 2, 4, 5, 6, 3] [(h0, ob 6 [.ref r, .int (iI w), .ref o, .ref td]), (o, ob 0 [.ref b2_53, .int (iI cn2), .int (iI pl), .int (iI tu)]), (b2_53, aB g n2_54 f2_55), (r, ob 2 [.ref rs, .ref it, .int (iI c)]), (rs, aI g 27 fs), (it, aI g m fi), (td, ob 5 [.ref r, .int (iI w), .int (iI (x - 1)), .int (iI x2_60), .int (iI a2), .int (iI bk)])] rfl rfl ?_
                refine v_lv [5, 6, 1, 0] [(0, .ref h0), (1, .int (iI x)), (2, .int (iI (k + 2))), (3, .int (iI (i + 1)))] rfl ?_
                exact ihL12 (i + 1) (k + 2) x2_60 a2 bk b2_53 n2_54 f2_55 cn2 (cl + kc_18 + kc_29 + kc_51) (sl + ks_19 + ks_30 + ks_52) (by assumption) (by omega) (by omega) (by omega) (by assumption) (by assumption) (by omega) (by omega) (by omega)
            ·
              refine v_iload fx 0 dX6_writeModes_105 rfl rfl ?_
              refine v_iconst fx dX6_writeModes_107 rfl ?_
              refine v_icmp_gt fx 141 dX6_writeModes_108 (by decide) rfl (by omega) (by omega) (fun h_63 => ?_) (fun h_63 => ?_)
              ·
                refine v_aload_n fx 2 dX6_writeModes_141 rfl rfl ?_
                refine v_get fx 0 0 inX6 k166 dX6_writeModes_142 rfl rfl (by decide) rfl rfl rfl ?_
                refine v_iload_n fx 3 dX6_writeModes_145 rfl rfl ?_
                refine v_iload_n fx 4 dX6_writeModes_146 rfl rfl ?_
                refine v_iconst fx dX6_writeModes_147 rfl ?_
                refine v_iadd fx (k + 1) dX6_writeModes_148 (by rfl) rfl ?_
                refine v_aload_n fx 2 dX6_writeModes_149 rfl rfl ?_
                refine v_get fx 0 1 inX6 k167 dX6_writeModes_150 rfl rfl (by decide) rfl rfl rfl ?_
                refine v_callV (As := [.int (iI x), .int (iI (k + 1)), .int (iI w)]) (rest := []) fx [4, 5, 6] [0, 1, 2, 3] [(r, ob 2 [.ref rs, .ref it, .int (iI c)]), (rs, aI g 27 fs), (it, aI g m fi)] [(h0, ob 6 [.ref r, .int (iI w), .ref o, .ref td]), (o, ob 0 [.ref b1, .int (iI c1), .int (iI pl), .int (iI tu)]), (b1, aB g n1 f1), (td, ob 5 [.ref r, .int (iI w), .int (iI (x - 1)), .int (iI nx), .int (iI a0), .int (iI bk)])] 3 0 (c_X2_item l g r rs it m c F fs fi x (k + 1) w (by first | omega | decide | assumption) (by omega) (by omega) (by omega)) dX6_writeModes_153 k685 k686 k687 k49 k688 ykX2_item rfl rfl rfl rfl rfl rfl rfl rfl (nl rfl) ⟨nl rfl, nl rfl⟩ ⟨(by show cl + 0 ≤ 8200; omega), (by show sl + 0 ≤ 800000; omega)⟩ rfl (fun v9 w9 hu => ?_)
                obtain ⟨a2, rfl, rfl, u_64, u_65⟩ := hu
                refine v_is (wn := [(h0, ob 6 [.ref r, .int (iI w), .ref o, .ref td]), (o, ob 0 [.ref b1, .int (iI c1), .int (iI pl), .int (iI tu)]), (b1, aB g n1 f1), (td, ob 5 [.ref r, .int (iI w), .int (iI (x - 1)), .int (iI nx), .int (iI a0), .int (iI bk)]), (r, ob 2 [.ref rs, .ref it, .int (iI c)]), (rs, aI g 27 fs), (it, aI g m fi)]) (cn := cl) (sn := sl) (sn2 := [.int (iI a2)]) rfl rfl rfl rfl ?_
                have ha2 := a2_of hp3 hp4 hi12_5 (by omega) (by omega)
                rw [← hea, ← u_64] at ha2
                have hTx : TI F fi x (k + 2) a2 := by
                  have h1 := TI_next hp3 hp4 (TI_next hp3 hp4 hi12_5 (by omega)) (by omega)
                  rw [← u_64, show k + 1 + 1 = k + 2 by omega] at h1
                  exact h1
                refine v_istore fx [(6, .int (iI a2)), (5, .int (iI (a1 - q1))), (4, .int (iI a1)), (0, .ref h0), (1, .int (iI x)), (2, .int (iI k)), (3, .int (iI i))] dX6_writeModes_156 (by decide) rfl rfl ?_
                refine v_aload_n fx 3 dX6_writeModes_158 rfl rfl ?_
                refine v_get fx 0 2 inX6 k168 dX6_writeModes_159 rfl rfl (by decide) rfl rfl rfl ?_
                refine v_getsN fx 3 (by decide) n702 dX6_writeModes_162 rfl ?_
                refine v_iconst fx dX6_writeModes_165 rfl ?_
                refine v_tald fx 3 (by first | decide | omega) (by first | decide | omega) dX6_writeModes_166 rfl ?_
                refine v_any (fun z_66 hz_66 ez_66 => ?_)
                have htm := tabm_at (x := 1) (by omega) ez_66 hz_66
                refine v_callVE (As := [.int (iI z_66)]) (rest := []) fx [1, 2] [0, 3, 4, 5, 6] [(o, ob 0 [.ref b1, .int (iI c1), .int (iI pl), .int (iI tu)]), (b1, aB g n1 f1)] [(h0, ob 6 [.ref r, .int (iI w), .ref o, .ref td]), (td, ob 5 [.ref r, .int (iI w), .int (iI (x - 1)), .int (iI nx), .int (iI a0), .int (iI bk)]), (r, ob 2 [.ref rs, .ref it, .int (iI c)]), (rs, aI g 27 fs), (it, aI g m fi)] 1 0 (c_X0_addCode l g o b1 n1 f1 c1 pl tu z_66 (by first | omega | decide | assumption) (by first | assumption | exact hp1) (by first | omega | decide | assumption) (by first | omega | decide | assumption)) dX6_writeModes_167 k703 k704 k705 k50 k706 ykX0_addCode rfl rfl rfl rfl rfl rfl rfl rfl (nl rfl) ⟨nl rfl, nl rfl⟩ ⟨(by show cl + 1 ≤ 8200; omega), (by show sl + 260000 ≤ 800000; omega)⟩ rfl (fun v9 w9 kc_67 ks_68 hu => ?_)
                obtain ⟨b2_69, n2_70, f2_71, cm, rfl, rfl, u_72, u_73, u_74, u_75, u_76⟩ := hu
                refine v_is (wn := [(h0, ob 6 [.ref r, .int (iI w), .ref o, .ref td]), (td, ob 5 [.ref r, .int (iI w), .int (iI (x - 1)), .int (iI nx), .int (iI a0), .int (iI bk)]), (r, ob 2 [.ref rs, .ref it, .int (iI c)]), (rs, aI g 27 fs), (it, aI g m fi), (o, ob 0 [.ref b2_69, .int (iI cm), .int (iI pl), .int (iI tu)]), (b2_69, aB g n2_70 f2_71)]) (cn := cl + kc_67) (sn := sl + ks_68) (sn2 := []) rfl rfl rfl rfl ?_
                refine v_aload_n fx 3 dX6_writeModes_170 rfl rfl ?_
                refine v_iload fx 2 dX6_writeModes_171 rfl rfl ?_
                refine v_aload_n fx 3 dX6_writeModes_173 rfl rfl ?_
                refine v_get fx 0 3 inX6 k169 dX6_writeModes_174 rfl rfl (by decide) rfl rfl rfl ?_
                refine v_callV (As := []) (rest := [.int (iI a1), .ref h0]) fx [1] [0, 2, 3, 4, 5, 6] [(td, ob 5 [.ref r, .int (iI w), .int (iI (x - 1)), .int (iI nx), .int (iI a0), .int (iI bk)])] [(h0, ob 6 [.ref r, .int (iI w), .ref o, .ref td]), (r, ob 2 [.ref rs, .ref it, .int (iI c)]), (rs, aI g 27 fs), (it, aI g m fi), (o, ob 0 [.ref b2_69, .int (iI cm), .int (iI pl), .int (iI tu)]), (b2_69, aB g n2_70 f2_71)] 0 0 (c_X5_runStart l g td r w (x - 1) nx a0 bk (by first | omega | decide | assumption)) dX6_writeModes_177 k727 k728 k729 k52 k730 ykX5_runStart rfl rfl rfl rfl rfl rfl rfl rfl (nl rfl) ⟨nl rfl, nl rfl⟩ ⟨(by show (cl + kc_67) + 0 ≤ 8200; omega), (by show (sl + ks_68) + 0 ≤ 800000; omega)⟩ rfl (fun v9 w9 hu => ?_)
                obtain ⟨rs0, rfl, rfl, u_77⟩ := hu
                refine v_is (wn := [(h0, ob 6 [.ref r, .int (iI w), .ref o, .ref td]), (r, ob 2 [.ref rs, .ref it, .int (iI c)]), (rs, aI g 27 fs), (it, aI g m fi), (o, ob 0 [.ref b2_69, .int (iI cm), .int (iI pl), .int (iI tu)]), (b2_69, aB g n2_70 f2_71), (td, ob 5 [.ref r, .int (iI w), .int (iI (x - 1)), .int (iI nx), .int (iI a0), .int (iI bk)])]) (cn := cl + kc_67) (sn := sl + ks_68) (sn2 := [.int (iI rs0), .int (iI a1), .ref h0]) rfl rfl rfl rfl ?_
                have hrs := u_77
                refine v_isub fx (a1 - rs0) dX6_writeModes_180 (by rfl) rfl ?_
                refine v_aload_n fx 3 dX6_writeModes_181 rfl rfl ?_
                refine v_get fx 0 3 inX6 k169 dX6_writeModes_182 rfl rfl (by decide) rfl rfl rfl ?_
                refine v_callV (As := []) (rest := [.int (iI (a1 - rs0)), .ref h0]) fx [6] [0, 1, 2, 3, 4, 5] [(td, ob 5 [.ref r, .int (iI w), .int (iI (x - 1)), .int (iI nx), .int (iI a0), .int (iI bk)])] [(h0, ob 6 [.ref r, .int (iI w), .ref o, .ref td]), (r, ob 2 [.ref rs, .ref it, .int (iI c)]), (rs, aI g 27 fs), (it, aI g m fi), (o, ob 0 [.ref b2_69, .int (iI cm), .int (iI pl), .int (iI tu)]), (b2_69, aB g n2_70 f2_71)] 0 0 (c_X5_isBlack l g td r w (x - 1) nx a0 bk (by first | omega | decide | assumption)) dX6_writeModes_185 k732 k733 k734 k52 k735 ykX5_isBlack rfl rfl rfl rfl rfl rfl rfl rfl (nl rfl) ⟨nl rfl, nl rfl⟩ ⟨(by show (cl + kc_67) + 0 ≤ 8200; omega), (by show (sl + ks_68) + 0 ≤ 800000; omega)⟩ rfl (fun v9 w9 hu => ?_)
                obtain ⟨rfl, rfl⟩ := hu
                refine v_is (wn := [(h0, ob 6 [.ref r, .int (iI w), .ref o, .ref td]), (r, ob 2 [.ref rs, .ref it, .int (iI c)]), (rs, aI g 27 fs), (it, aI g m fi), (o, ob 0 [.ref b2_69, .int (iI cm), .int (iI pl), .int (iI tu)]), (b2_69, aB g n2_70 f2_71), (td, ob 5 [.ref r, .int (iI w), .int (iI (x - 1)), .int (iI nx), .int (iI a0), .int (iI bk)])]) (cn := cl + kc_67) (sn := sl + ks_68) (sn2 := [.int (iI bk), .int (iI (a1 - rs0)), .ref h0]) rfl rfl rfl rfl ?_
                refine v_callVE (As := [.int (iI (a1 - rs0)), .int (iI bk)]) (rest := []) fx [0, 4, 5] [1, 2, 3, 6] [(h0, ob 6 [.ref r, .int (iI w), .ref o, .ref td]), (o, ob 0 [.ref b2_69, .int (iI cm), .int (iI pl), .int (iI tu)]), (b2_69, aB g n2_70 f2_71)] [(r, ob 2 [.ref rs, .ref it, .int (iI c)]), (rs, aI g 27 fs), (it, aI g m fi), (td, ob 5 [.ref r, .int (iI w), .int (iI (x - 1)), .int (iI nx), .int (iI a0), .int (iI bk)])] 2 0 (c_X6_writeRun l g h0 r o td w b2_69 n2_70 f2_71 cm pl tu (a1 - rs0) bk (by first | omega | decide | assumption) (by assumption) (by first | omega | decide | assumption) (by first | omega | decide | assumption) (by first | omega | decide | assumption)) dX6_writeModes_188 k736 k738 k9 k51 k739 ykX6_writeRun rfl rfl rfl rfl rfl rfl rfl rfl (nl rfl) ⟨nl rfl, nl rfl⟩ ⟨(by show (cl + kc_67) + 4070 ≤ 8200; omega), (by show (sl + ks_68) + 530000 ≤ 800000; omega)⟩ rfl (fun v9 w9 kc_78 ks_79 hu => ?_)
                obtain ⟨b2_80, n2_81, f2_82, cn1, rfl, rfl, u_83, u_84, u_85, u_86⟩ := hu
                refine v_is (wn := [(r, ob 2 [.ref rs, .ref it, .int (iI c)]), (rs, aI g 27 fs), (it, aI g m fi), (td, ob 5 [.ref r, .int (iI w), .int (iI (x - 1)), .int (iI nx), .int (iI a0), .int (iI bk)]), (h0, ob 6 [.ref r, .int (iI w), .ref o, .ref td]), (o, ob 0 [.ref b2_80, .int (iI cn1), .int (iI pl), .int (iI tu)]), (b2_80, aB g n2_81 f2_82)]) (cn := cl + kc_67 + kc_78) (sn := sl + ks_68 + ks_79) (sn2 := []) rfl rfl rfl rfl ?_
                have hw1 := u_86
                have hbr := bgt_run (k1 := cn1 - cm) (bk := bk) (w := w) (by omega) hrs ha1 (by omega) (by omega)
                refine v_aload_n fx 3 dX6_writeModes_191 rfl rfl ?_
                refine v_iload fx 0 dX6_writeModes_192 rfl rfl ?_
                refine v_iload fx 2 dX6_writeModes_194 rfl rfl ?_
                refine v_isub fx (a2 - a1) dX6_writeModes_196 (by rfl) rfl ?_
                refine v_aload_n fx 3 dX6_writeModes_197 rfl rfl ?_
                refine v_get fx 4 3 inX6 k169 dX6_writeModes_198 rfl rfl (by decide) rfl rfl rfl ?_
                refine v_callV (As := []) (rest := [.int (iI (a2 - a1)), .ref h0]) fx [3] [0, 1, 2, 4, 5, 6] [(td, ob 5 [.ref r, .int (iI w), .int (iI (x - 1)), .int (iI nx), .int (iI a0), .int (iI bk)])] [(r, ob 2 [.ref rs, .ref it, .int (iI c)]), (rs, aI g 27 fs), (it, aI g m fi), (h0, ob 6 [.ref r, .int (iI w), .ref o, .ref td]), (o, ob 0 [.ref b2_80, .int (iI cn1), .int (iI pl), .int (iI tu)]), (b2_80, aB g n2_81 f2_82)] 0 0 (c_X5_isBlack l g td r w (x - 1) nx a0 bk (by first | omega | decide | assumption)) dX6_writeModes_201 k732 k733 k734 k52 k735 ykX5_isBlack rfl rfl rfl rfl rfl rfl rfl rfl (nl rfl) ⟨nl rfl, nl rfl⟩ ⟨(by show (cl + kc_67 + kc_78) + 0 ≤ 8200; omega), (by show (sl + ks_68 + ks_79) + 0 ≤ 800000; omega)⟩ rfl (fun v9 w9 hu => ?_)
                obtain ⟨rfl, rfl⟩ := hu
                refine v_is (wn := [(r, ob 2 [.ref rs, .ref it, .int (iI c)]), (rs, aI g 27 fs), (it, aI g m fi), (h0, ob 6 [.ref r, .int (iI w), .ref o, .ref td]), (o, ob 0 [.ref b2_80, .int (iI cn1), .int (iI pl), .int (iI tu)]), (b2_80, aB g n2_81 f2_82), (td, ob 5 [.ref r, .int (iI w), .int (iI (x - 1)), .int (iI nx), .int (iI a0), .int (iI bk)])]) (cn := cl + kc_67 + kc_78) (sn := sl + ks_68 + ks_79) (sn2 := [.int (iI bk), .int (iI (a2 - a1)), .ref h0]) rfl rfl rfl rfl ?_
                refine v_if_ne fx 211 dX6_writeModes_204 (by decide) rfl (by omega) (fun h_87 => ?_) (fun h_87 => ?_)
                ·
                  refine v_iconst fx dX6_writeModes_211 rfl ?_
                  refine v_callVE (As := [.int (iI (a2 - a1)), .int (iI 0)]) (rest := []) fx [3, 4, 5] [0, 1, 2, 6] [(h0, ob 6 [.ref r, .int (iI w), .ref o, .ref td]), (o, ob 0 [.ref b2_80, .int (iI cn1), .int (iI pl), .int (iI tu)]), (b2_80, aB g n2_81 f2_82)] [(r, ob 2 [.ref rs, .ref it, .int (iI c)]), (rs, aI g 27 fs), (it, aI g m fi), (td, ob 5 [.ref r, .int (iI w), .int (iI (x - 1)), .int (iI nx), .int (iI a0), .int (iI bk)])] 2 0 (c_X6_writeRun l g h0 r o td w b2_80 n2_81 f2_82 cn1 pl tu (a2 - a1) 0 (by first | omega | decide | assumption) (by assumption) (by first | omega | decide | assumption) (by first | omega | decide | assumption) (by first | omega | decide | assumption)) dX6_writeModes_212 k736 k738 k9 k51 k739 ykX6_writeRun rfl rfl rfl rfl rfl rfl rfl rfl (nl rfl) ⟨nl rfl, nl rfl⟩ ⟨(by show (cl + kc_67 + kc_78) + 4070 ≤ 8200; omega), (by show (sl + ks_68 + ks_79) + 530000 ≤ 800000; omega)⟩ rfl (fun v9 w9 kc_88 ks_89 hu => ?_)
                  obtain ⟨b2_90, n2_91, f2_92, cn2, rfl, rfl, u_93, u_94, u_95, u_96⟩ := hu
                  refine v_is (wn := [(r, ob 2 [.ref rs, .ref it, .int (iI c)]), (rs, aI g 27 fs), (it, aI g m fi), (td, ob 5 [.ref r, .int (iI w), .int (iI (x - 1)), .int (iI nx), .int (iI a0), .int (iI bk)]), (h0, ob 6 [.ref r, .int (iI w), .ref o, .ref td]), (o, ob 0 [.ref b2_90, .int (iI cn2), .int (iI pl), .int (iI tu)]), (b2_90, aB g n2_91 f2_92)]) (cn := cl + kc_67 + kc_78 + kc_88) (sn := sl + ks_68 + ks_79 + ks_89) (sn2 := []) rfl rfl rfl rfl ?_
                  have hw2 := u_96
                  refine v_aload_n fx 3 dX6_writeModes_215 rfl rfl ?_
                  refine v_get fx 4 3 inX6 k169 dX6_writeModes_216 rfl rfl (by decide) rfl rfl rfl ?_
                  refine v_iload fx 0 dX6_writeModes_219 rfl rfl ?_
                  refine v_callV (As := [.int (iI a2)]) (rest := []) fx [3, 0, 1, 2] [4, 5, 6] [(td, ob 5 [.ref r, .int (iI w), .int (iI (x - 1)), .int (iI nx), .int (iI a0), .int (iI bk)]), (r, ob 2 [.ref rs, .ref it, .int (iI c)]), (rs, aI g 27 fs), (it, aI g m fi)] [(h0, ob 6 [.ref r, .int (iI w), .ref o, .ref td]), (o, ob 0 [.ref b2_90, .int (iI cn2), .int (iI pl), .int (iI tu)]), (b2_90, aB g n2_91 f2_92)] 1 0 (c_X5_moveTo l g td r w (x - 1) nx a0 bk rs it m c F fs fi a2 (by exact hp2) (by exact hp3) (by first | omega | decide | assumption) (by first | omega | decide | assumption) (by first | omega | decide | assumption) (by first | omega | decide | assumption)) dX6_writeModes_221 k714 k715 k716 k52 k717 ykX5_moveTo rfl rfl rfl rfl rfl rfl rfl rfl (nl rfl) ⟨nl rfl, nl rfl⟩ ⟨(by show (cl + kc_67 + kc_78 + kc_88) + 0 ≤ 8200; omega), (by show (sl + ks_68 + ks_79 + ks_89) + 0 ≤ 800000; omega)⟩ rfl (fun v9 w9 hu => ?_)
                  obtain ⟨x2_97, rfl, rfl, u_98, u_99⟩ := hu
                  refine v_is (wn := [(h0, ob 6 [.ref r, .int (iI w), .ref o, .ref td]), (o, ob 0 [.ref b2_90, .int (iI cn2), .int (iI pl), .int (iI tu)]), (b2_90, aB g n2_91 f2_92), (td, ob 5 [.ref r, .int (iI w), .int (iI (x - 1)), .int (iI x2_97), .int (iI a2), .int (iI bk)]), (r, ob 2 [.ref rs, .ref it, .int (iI c)]), (rs, aI g 27 fs), (it, aI g m fi)]) (cn := cl + kc_67 + kc_78 + kc_88) (sn := sl + ks_68 + ks_79 + ks_89) (sn2 := []) rfl rfl rfl rfl ?_
                  have hbt := bgt_hor (k1 := cn1 - cm) (k2 := cn2 - cn1) (bk := bk) (by omega) hrs ha1 ha2 (by omega) (by omega) (by omega)
                  refine v_iinc fx 5 (k + 2) [(2, .int (iI (k + 2))), (6, .int (iI a2)), (5, .int (iI (a1 - q1))), (4, .int (iI a1)), (0, .ref h0), (1, .int (iI x)), (3, .int (iI i))] dX6_writeModes_224 rfl (by omega) (by decide) rfl rfl ?_
                  refine v_iinc fx 6 (i + 1) [(3, .int (iI (i + 1))), (2, .int (iI (k + 2))), (6, .int (iI a2)), (5, .int (iI (a1 - q1))), (4, .int (iI a1)), (0, .ref h0), (1, .int (iI x))] dX6_writeModes_227 rfl (by omega) (by decide) rfl rfl ?_
                  refine v_goto fx 12 dX6_writeModes_230 (by decide) ?_
                  refine v_ws [0, 1, 2, 4, 5, 6, 3] [(h0, ob 6 [.ref r, .int (iI w), .ref o, .ref td]), (o, ob 0 [.ref b2_90, .int (iI cn2), .int (iI pl), .int (iI tu)]), (b2_90, aB g n2_91 f2_92), (r, ob 2 [.ref rs, .ref it, .int (iI c)]), (rs, aI g 27 fs), (it, aI g m fi), (td, ob 5 [.ref r, .int (iI w), .int (iI (x - 1)), .int (iI x2_97), .int (iI a2), .int (iI bk)])] rfl rfl ?_
                  refine v_lv [5, 6, 1, 0] [(0, .ref h0), (1, .int (iI x)), (2, .int (iI (k + 2))), (3, .int (iI (i + 1)))] rfl ?_
                  exact ihL12 (i + 1) (k + 2) x2_97 a2 bk b2_90 n2_91 f2_92 cn2 (cl + kc_67 + kc_78 + kc_88) (sl + ks_68 + ks_79 + ks_89) (by assumption) (by omega) (by omega) (by omega) (by assumption) (by assumption) (by omega) (by omega) (by omega)
                ·
                  refine v_iconst fx dX6_writeModes_207 rfl ?_
                  refine v_goto fx 212 dX6_writeModes_208 (by decide) ?_
                  refine v_callVE (As := [.int (iI (a2 - a1)), .int (iI 1)]) (rest := []) fx [3, 4, 5] [0, 1, 2, 6] [(h0, ob 6 [.ref r, .int (iI w), .ref o, .ref td]), (o, ob 0 [.ref b2_80, .int (iI cn1), .int (iI pl), .int (iI tu)]), (b2_80, aB g n2_81 f2_82)] [(r, ob 2 [.ref rs, .ref it, .int (iI c)]), (rs, aI g 27 fs), (it, aI g m fi), (td, ob 5 [.ref r, .int (iI w), .int (iI (x - 1)), .int (iI nx), .int (iI a0), .int (iI bk)])] 2 0 (c_X6_writeRun l g h0 r o td w b2_80 n2_81 f2_82 cn1 pl tu (a2 - a1) 1 (by first | omega | decide | assumption) (by assumption) (by first | omega | decide | assumption) (by first | omega | decide | assumption) (by first | omega | decide | assumption)) dX6_writeModes_212 k736 k738 k9 k51 k739 ykX6_writeRun rfl rfl rfl rfl rfl rfl rfl rfl (nl rfl) ⟨nl rfl, nl rfl⟩ ⟨(by show (cl + kc_67 + kc_78) + 4070 ≤ 8200; omega), (by show (sl + ks_68 + ks_79) + 530000 ≤ 800000; omega)⟩ rfl (fun v9 w9 kc_100 ks_101 hu => ?_)
                  obtain ⟨b2_102, n2_103, f2_104, cn2, rfl, rfl, u_105, u_106, u_107, u_108⟩ := hu
                  refine v_is (wn := [(r, ob 2 [.ref rs, .ref it, .int (iI c)]), (rs, aI g 27 fs), (it, aI g m fi), (td, ob 5 [.ref r, .int (iI w), .int (iI (x - 1)), .int (iI nx), .int (iI a0), .int (iI bk)]), (h0, ob 6 [.ref r, .int (iI w), .ref o, .ref td]), (o, ob 0 [.ref b2_102, .int (iI cn2), .int (iI pl), .int (iI tu)]), (b2_102, aB g n2_103 f2_104)]) (cn := cl + kc_67 + kc_78 + kc_100) (sn := sl + ks_68 + ks_79 + ks_101) (sn2 := []) rfl rfl rfl rfl ?_
                  have hw2 := u_108
                  refine v_aload_n fx 3 dX6_writeModes_215 rfl rfl ?_
                  refine v_get fx 4 3 inX6 k169 dX6_writeModes_216 rfl rfl (by decide) rfl rfl rfl ?_
                  refine v_iload fx 0 dX6_writeModes_219 rfl rfl ?_
                  refine v_callV (As := [.int (iI a2)]) (rest := []) fx [3, 0, 1, 2] [4, 5, 6] [(td, ob 5 [.ref r, .int (iI w), .int (iI (x - 1)), .int (iI nx), .int (iI a0), .int (iI bk)]), (r, ob 2 [.ref rs, .ref it, .int (iI c)]), (rs, aI g 27 fs), (it, aI g m fi)] [(h0, ob 6 [.ref r, .int (iI w), .ref o, .ref td]), (o, ob 0 [.ref b2_102, .int (iI cn2), .int (iI pl), .int (iI tu)]), (b2_102, aB g n2_103 f2_104)] 1 0 (c_X5_moveTo l g td r w (x - 1) nx a0 bk rs it m c F fs fi a2 (by exact hp2) (by exact hp3) (by first | omega | decide | assumption) (by first | omega | decide | assumption) (by first | omega | decide | assumption) (by first | omega | decide | assumption)) dX6_writeModes_221 k714 k715 k716 k52 k717 ykX5_moveTo rfl rfl rfl rfl rfl rfl rfl rfl (nl rfl) ⟨nl rfl, nl rfl⟩ ⟨(by show (cl + kc_67 + kc_78 + kc_100) + 0 ≤ 8200; omega), (by show (sl + ks_68 + ks_79 + ks_101) + 0 ≤ 800000; omega)⟩ rfl (fun v9 w9 hu => ?_)
                  obtain ⟨x2_109, rfl, rfl, u_110, u_111⟩ := hu
                  refine v_is (wn := [(h0, ob 6 [.ref r, .int (iI w), .ref o, .ref td]), (o, ob 0 [.ref b2_102, .int (iI cn2), .int (iI pl), .int (iI tu)]), (b2_102, aB g n2_103 f2_104), (td, ob 5 [.ref r, .int (iI w), .int (iI (x - 1)), .int (iI x2_109), .int (iI a2), .int (iI bk)]), (r, ob 2 [.ref rs, .ref it, .int (iI c)]), (rs, aI g 27 fs), (it, aI g m fi)]) (cn := cl + kc_67 + kc_78 + kc_100) (sn := sl + ks_68 + ks_79 + ks_101) (sn2 := []) rfl rfl rfl rfl ?_
                  have hbt := bgt_hor (k1 := cn1 - cm) (k2 := cn2 - cn1) (bk := bk) (by omega) hrs ha1 ha2 (by omega) (by omega) (by omega)
                  refine v_iinc fx 5 (k + 2) [(2, .int (iI (k + 2))), (6, .int (iI a2)), (5, .int (iI (a1 - q1))), (4, .int (iI a1)), (0, .ref h0), (1, .int (iI x)), (3, .int (iI i))] dX6_writeModes_224 rfl (by omega) (by decide) rfl rfl ?_
                  refine v_iinc fx 6 (i + 1) [(3, .int (iI (i + 1))), (2, .int (iI (k + 2))), (6, .int (iI a2)), (5, .int (iI (a1 - q1))), (4, .int (iI a1)), (0, .ref h0), (1, .int (iI x))] dX6_writeModes_227 rfl (by omega) (by decide) rfl rfl ?_
                  refine v_goto fx 12 dX6_writeModes_230 (by decide) ?_
                  refine v_ws [0, 1, 2, 4, 5, 6, 3] [(h0, ob 6 [.ref r, .int (iI w), .ref o, .ref td]), (o, ob 0 [.ref b2_102, .int (iI cn2), .int (iI pl), .int (iI tu)]), (b2_102, aB g n2_103 f2_104), (r, ob 2 [.ref rs, .ref it, .int (iI c)]), (rs, aI g 27 fs), (it, aI g m fi), (td, ob 5 [.ref r, .int (iI w), .int (iI (x - 1)), .int (iI x2_109), .int (iI a2), .int (iI bk)])] rfl rfl ?_
                  refine v_lv [5, 6, 1, 0] [(0, .ref h0), (1, .int (iI x)), (2, .int (iI (k + 2))), (3, .int (iI (i + 1)))] rfl ?_
                  exact ihL12 (i + 1) (k + 2) x2_109 a2 bk b2_102 n2_103 f2_104 cn2 (cl + kc_67 + kc_78 + kc_100) (sl + ks_68 + ks_79 + ks_101) (by assumption) (by omega) (by omega) (by omega) (by assumption) (by assumption) (by omega) (by omega) (by omega)
              ·
                refine v_aload_n fx 2 dX6_writeModes_111 rfl rfl ?_
                refine v_get fx 0 2 inX6 k168 dX6_writeModes_112 rfl rfl (by decide) rfl rfl rfl ?_
                refine v_getsN fx 3 (by decide) n702 dX6_writeModes_115 rfl ?_
                refine v_iconst fx dX6_writeModes_118 rfl ?_
                refine v_iload fx 0 dX6_writeModes_119 rfl rfl ?_
                refine v_iadd fx (5 + (a1 - q1)) dX6_writeModes_121 (by rfl) rfl ?_
                refine v_tald fx 3 (by first | decide | omega) (by refine ⟨by omega, ?_⟩; show _ < (10 : Int); omega) dX6_writeModes_122 rfl ?_
                refine v_any (fun z_112 hz_112 ez_112 => ?_)
                have htm := tabm_at (x := 5 + (a1 - q1)) (by omega) ez_112 hz_112
                refine v_callVE (As := [.int (iI z_112)]) (rest := []) fx [1, 2] [0, 3, 4, 5, 6] [(o, ob 0 [.ref b1, .int (iI c1), .int (iI pl), .int (iI tu)]), (b1, aB g n1 f1)] [(h0, ob 6 [.ref r, .int (iI w), .ref o, .ref td]), (td, ob 5 [.ref r, .int (iI w), .int (iI (x - 1)), .int (iI nx), .int (iI a0), .int (iI bk)]), (r, ob 2 [.ref rs, .ref it, .int (iI c)]), (rs, aI g 27 fs), (it, aI g m fi)] 1 0 (c_X0_addCode l g o b1 n1 f1 c1 pl tu z_112 (by first | omega | decide | assumption) (by first | assumption | exact hp1) (by first | omega | decide | assumption) (by first | omega | decide | assumption)) dX6_writeModes_123 k703 k704 k705 k50 k706 ykX0_addCode rfl rfl rfl rfl rfl rfl rfl rfl (nl rfl) ⟨nl rfl, nl rfl⟩ ⟨(by show cl + 1 ≤ 8200; omega), (by show sl + 260000 ≤ 800000; omega)⟩ rfl (fun v9 w9 kc_113 ks_114 hu => ?_)
                obtain ⟨b2_115, n2_116, f2_117, c2_118, rfl, rfl, u_119, u_120, u_121, u_122, u_123⟩ := hu
                refine v_is (wn := [(h0, ob 6 [.ref r, .int (iI w), .ref o, .ref td]), (td, ob 5 [.ref r, .int (iI w), .int (iI (x - 1)), .int (iI nx), .int (iI a0), .int (iI bk)]), (r, ob 2 [.ref rs, .ref it, .int (iI c)]), (rs, aI g 27 fs), (it, aI g m fi), (o, ob 0 [.ref b2_115, .int (iI c2_118), .int (iI pl), .int (iI tu)]), (b2_115, aB g n2_116 f2_117)]) (cn := cl + kc_113) (sn := sl + ks_114) (sn2 := []) rfl rfl rfl rfl ?_
                refine v_aload_n fx 2 dX6_writeModes_126 rfl rfl ?_
                refine v_get fx 0 3 inX6 k169 dX6_writeModes_127 rfl rfl (by decide) rfl rfl rfl ?_
                refine v_iload fx 1 dX6_writeModes_130 rfl rfl ?_
                refine v_callV (As := [.int (iI a1)]) (rest := []) fx [1, 2, 3, 4] [0, 5, 6] [(td, ob 5 [.ref r, .int (iI w), .int (iI (x - 1)), .int (iI nx), .int (iI a0), .int (iI bk)]), (r, ob 2 [.ref rs, .ref it, .int (iI c)]), (rs, aI g 27 fs), (it, aI g m fi)] [(h0, ob 6 [.ref r, .int (iI w), .ref o, .ref td]), (o, ob 0 [.ref b2_115, .int (iI c2_118), .int (iI pl), .int (iI tu)]), (b2_115, aB g n2_116 f2_117)] 1 0 (c_X5_turnAt l g td r w (x - 1) nx a0 bk rs it m c F fs fi a1 (by exact hp2) (by exact hp3) (by first | omega | decide | assumption) (by first | omega | decide | assumption) (by first | omega | decide | assumption) (by first | omega | decide | assumption) (by first | omega | decide | assumption)) dX6_writeModes_132 k722 k723 k724 k52 k725 ykX5_turnAt rfl rfl rfl rfl rfl rfl rfl rfl (nl rfl) ⟨nl rfl, nl rfl⟩ ⟨(by show (cl + kc_113) + 0 ≤ 8200; omega), (by show (sl + ks_114) + 0 ≤ 800000; omega)⟩ rfl (fun v9 w9 hu => ?_)
                obtain ⟨x2_124, k2_125, rfl, rfl, u_126, u_127, u_128⟩ := hu
                refine v_is (wn := [(h0, ob 6 [.ref r, .int (iI w), .ref o, .ref td]), (o, ob 0 [.ref b2_115, .int (iI c2_118), .int (iI pl), .int (iI tu)]), (b2_115, aB g n2_116 f2_117), (td, ob 5 [.ref r, .int (iI w), .int (iI (x - 1)), .int (iI x2_124), .int (iI a1), .int (iI k2_125)]), (r, ob 2 [.ref rs, .ref it, .int (iI c)]), (rs, aI g 27 fs), (it, aI g m fi)]) (cn := cl + kc_113) (sn := sl + ks_114) (sn2 := []) rfl rfl rfl rfl ?_
                have hbt := bgt_to (a0 := a0) (b := a1) (w := w) (by omega) (by omega) (by omega)
                have hTx : TI F fi x (k + 1) a1 := by rw [hea]; exact TI_next hp3 hp4 hi12_5 (by omega)
                refine v_iinc fx 4 (k + 1) [(2, .int (iI (k + 1))), (5, .int (iI (a1 - q1))), (4, .int (iI a1)), (0, .ref h0), (1, .int (iI x)), (3, .int (iI i))] dX6_writeModes_135 rfl (by omega) (by decide) rfl rfl ?_
                refine v_goto fx 227 dX6_writeModes_138 (by decide) ?_
                refine v_iinc fx 5 (i + 1) [(3, .int (iI (i + 1))), (2, .int (iI (k + 1))), (5, .int (iI (a1 - q1))), (4, .int (iI a1)), (0, .ref h0), (1, .int (iI x))] dX6_writeModes_227 rfl (by omega) (by decide) rfl rfl ?_
                refine v_goto fx 12 dX6_writeModes_230 (by decide) ?_
                refine v_ws [0, 1, 2, 4, 5, 6, 3] [(h0, ob 6 [.ref r, .int (iI w), .ref o, .ref td]), (o, ob 0 [.ref b2_115, .int (iI c2_118), .int (iI pl), .int (iI tu)]), (b2_115, aB g n2_116 f2_117), (r, ob 2 [.ref rs, .ref it, .int (iI c)]), (rs, aI g 27 fs), (it, aI g m fi), (td, ob 5 [.ref r, .int (iI w), .int (iI (x - 1)), .int (iI x2_124), .int (iI a1), .int (iI k2_125)])] rfl rfl ?_
                refine v_lv [4, 5, 1, 0] [(0, .ref h0), (1, .int (iI x)), (2, .int (iI (k + 1))), (3, .int (iI (i + 1)))] rfl ?_
                exact ihL12 (i + 1) (k + 1) x2_124 a1 k2_125 b2_115 n2_116 f2_117 c2_118 (cl + kc_113) (sl + ks_114) (by assumption) (by omega) (by omega) (by omega) (by assumption) (by assumption) (by omega) (by omega) (by omega)
          ·
            refine v_aload_n fx 2 dX6_writeModes_69 rfl rfl ?_
            refine v_get fx 0 2 inX6 k168 dX6_writeModes_70 rfl rfl (by decide) rfl rfl rfl ?_
            refine v_getsN fx 3 (by decide) n702 dX6_writeModes_73 rfl ?_
            refine v_iconst fx dX6_writeModes_76 rfl ?_
            refine v_tald fx 3 (by first | decide | omega) (by first | decide | omega) dX6_writeModes_77 rfl ?_
            refine v_any (fun z_129 hz_129 ez_129 => ?_)
            have htm := tabm_at (x := 0) (by omega) ez_129 hz_129
            refine v_callVE (As := [.int (iI z_129)]) (rest := []) fx [1, 2] [0, 3, 4, 5, 6] [(o, ob 0 [.ref b1, .int (iI c1), .int (iI pl), .int (iI tu)]), (b1, aB g n1 f1)] [(h0, ob 6 [.ref r, .int (iI w), .ref o, .ref td]), (td, ob 5 [.ref r, .int (iI w), .int (iI (x - 1)), .int (iI nx), .int (iI a0), .int (iI bk)]), (r, ob 2 [.ref rs, .ref it, .int (iI c)]), (rs, aI g 27 fs), (it, aI g m fi)] 1 0 (c_X0_addCode l g o b1 n1 f1 c1 pl tu z_129 (by first | omega | decide | assumption) (by first | assumption | exact hp1) (by first | omega | decide | assumption) (by first | omega | decide | assumption)) dX6_writeModes_78 k703 k704 k705 k50 k706 ykX0_addCode rfl rfl rfl rfl rfl rfl rfl rfl (nl rfl) ⟨nl rfl, nl rfl⟩ ⟨(by show cl + 1 ≤ 8200; omega), (by show sl + 260000 ≤ 800000; omega)⟩ rfl (fun v9 w9 kc_130 ks_131 hu => ?_)
            obtain ⟨b2_132, n2_133, f2_134, c2_135, rfl, rfl, u_136, u_137, u_138, u_139, u_140⟩ := hu
            refine v_is (wn := [(h0, ob 6 [.ref r, .int (iI w), .ref o, .ref td]), (td, ob 5 [.ref r, .int (iI w), .int (iI (x - 1)), .int (iI nx), .int (iI a0), .int (iI bk)]), (r, ob 2 [.ref rs, .ref it, .int (iI c)]), (rs, aI g 27 fs), (it, aI g m fi), (o, ob 0 [.ref b2_132, .int (iI c2_135), .int (iI pl), .int (iI tu)]), (b2_132, aB g n2_133 f2_134)]) (cn := cl + kc_130) (sn := sl + ks_131) (sn2 := []) rfl rfl rfl rfl ?_
            refine v_aload_n fx 2 dX6_writeModes_81 rfl rfl ?_
            refine v_get fx 0 3 inX6 k169 dX6_writeModes_82 rfl rfl (by decide) rfl rfl rfl ?_
            refine v_aload_n fx 2 dX6_writeModes_85 rfl rfl ?_
            refine v_get fx 0 3 inX6 k169 dX6_writeModes_86 rfl rfl (by decide) rfl rfl rfl ?_
            refine v_callV (As := []) (rest := [.ref td]) fx [1, 2, 3, 4] [0, 5, 6] [(td, ob 5 [.ref r, .int (iI w), .int (iI (x - 1)), .int (iI nx), .int (iI a0), .int (iI bk)]), (r, ob 2 [.ref rs, .ref it, .int (iI c)]), (rs, aI g 27 fs), (it, aI g m fi)] [(h0, ob 6 [.ref r, .int (iI w), .ref o, .ref td]), (o, ob 0 [.ref b2_132, .int (iI c2_135), .int (iI pl), .int (iI tu)]), (b2_132, aB g n2_133 f2_134)] 0 0 (c_X5_b2 l g td r w (x - 1) nx a0 bk rs it m c F fs fi (by exact hp2) (by exact hp3) (by omega) (by omega) (by exact hi12_4) (by first | omega | decide | assumption) (by first | omega | decide | assumption) (by first | omega | decide | assumption)) dX6_writeModes_89 k698 k699 k700 k52 k701 ykX5_b2 rfl rfl rfl rfl rfl rfl rfl rfl (nl rfl) ⟨nl rfl, nl rfl⟩ ⟨(by show (cl + kc_130) + 0 ≤ 8200; omega), (by show (sl + ks_131) + 0 ≤ 800000; omega)⟩ rfl (fun v9 w9 hu => ?_)
            obtain ⟨q3, rfl, rfl, u_141, u_142, u_143⟩ := hu
            refine v_is (wn := [(h0, ob 6 [.ref r, .int (iI w), .ref o, .ref td]), (o, ob 0 [.ref b2_132, .int (iI c2_135), .int (iI pl), .int (iI tu)]), (b2_132, aB g n2_133 f2_134), (td, ob 5 [.ref r, .int (iI w), .int (iI (x - 1)), .int (iI nx), .int (iI a0), .int (iI bk)]), (r, ob 2 [.ref rs, .ref it, .int (iI c)]), (rs, aI g 27 fs), (it, aI g m fi)]) (cn := cl + kc_130) (sn := sl + ks_131) (sn2 := [.int (iI q3), .ref td]) rfl rfl rfl rfl ?_
            have hq3 : q3 = q2 := by rw [u_141, hq2]
            have hbt := bgt_to (a0 := a0) (b := q3) (w := w) (by omega) (by omega) (by omega)
            have hTx : TI F fi x k q3 := TI_less hp3 hp4 hi12_5 (by omega) (by omega)
            refine v_callV (As := [.int (iI q3)]) (rest := []) fx [3, 4, 5, 6] [0, 1, 2] [(td, ob 5 [.ref r, .int (iI w), .int (iI (x - 1)), .int (iI nx), .int (iI a0), .int (iI bk)]), (r, ob 2 [.ref rs, .ref it, .int (iI c)]), (rs, aI g 27 fs), (it, aI g m fi)] [(h0, ob 6 [.ref r, .int (iI w), .ref o, .ref td]), (o, ob 0 [.ref b2_132, .int (iI c2_135), .int (iI pl), .int (iI tu)]), (b2_132, aB g n2_133 f2_134)] 1 0 (c_X5_moveTo l g td r w (x - 1) nx a0 bk rs it m c F fs fi q3 (by exact hp2) (by exact hp3) (by first | omega | decide | assumption) (by first | omega | decide | assumption) (by first | omega | decide | assumption) (by first | omega | decide | assumption)) dX6_writeModes_92 k714 k715 k716 k52 k717 ykX5_moveTo rfl rfl rfl rfl rfl rfl rfl rfl (nl rfl) ⟨nl rfl, nl rfl⟩ ⟨(by show (cl + kc_130) + 0 ≤ 8200; omega), (by show (sl + ks_131) + 0 ≤ 800000; omega)⟩ rfl (fun v9 w9 hu => ?_)
            obtain ⟨x2_144, rfl, rfl, u_145, u_146⟩ := hu
            refine v_is (wn := [(h0, ob 6 [.ref r, .int (iI w), .ref o, .ref td]), (o, ob 0 [.ref b2_132, .int (iI c2_135), .int (iI pl), .int (iI tu)]), (b2_132, aB g n2_133 f2_134), (td, ob 5 [.ref r, .int (iI w), .int (iI (x - 1)), .int (iI x2_144), .int (iI q3), .int (iI bk)]), (r, ob 2 [.ref rs, .ref it, .int (iI c)]), (rs, aI g 27 fs), (it, aI g m fi)]) (cn := cl + kc_130) (sn := sl + ks_131) (sn2 := []) rfl rfl rfl rfl ?_
            refine v_goto fx 227 dX6_writeModes_95 (by decide) ?_
            refine v_iinc fx 5 (i + 1) [(3, .int (iI (i + 1))), (5, .int (iI (a1 - q1))), (4, .int (iI a1)), (0, .ref h0), (1, .int (iI x)), (2, .int (iI k))] dX6_writeModes_227 rfl (by omega) (by decide) rfl rfl ?_
            refine v_goto fx 12 dX6_writeModes_230 (by decide) ?_
            refine v_ws [0, 1, 2, 4, 5, 6, 3] [(h0, ob 6 [.ref r, .int (iI w), .ref o, .ref td]), (o, ob 0 [.ref b2_132, .int (iI c2_135), .int (iI pl), .int (iI tu)]), (b2_132, aB g n2_133 f2_134), (r, ob 2 [.ref rs, .ref it, .int (iI c)]), (rs, aI g 27 fs), (it, aI g m fi), (td, ob 5 [.ref r, .int (iI w), .int (iI (x - 1)), .int (iI x2_144), .int (iI q3), .int (iI bk)])] rfl rfl ?_
            refine v_lv [3, 4, 5, 0] [(0, .ref h0), (1, .int (iI x)), (2, .int (iI k)), (3, .int (iI (i + 1)))] rfl ?_
            exact ihL12 (i + 1) k x2_144 q3 bk b2_132 n2_133 f2_134 c2_135 (cl + kc_130) (sl + ks_131) (by assumption) (by omega) (by omega) (by omega) (by assumption) (by assumption) (by omega) (by omega) (by omega)
  refine v_lv [2, 3, 1, 0] [(0, .ref h0), (1, .int (iI x)), (2, .int (iI 0)), (3, .int (iI 0))] rfl ?_
  exact L12 _ 0 0 0 (-1) 0 ba n f cb 0 0 (by exact hp1) (by omega) (by omega) (by omega) (by exact TI_0 hp3 (by omega)) (by exact TI_0 hp3 (by omega)) (by omega) (by rw [bgt_0]; omega) (Nat.lt_succ_self _)
