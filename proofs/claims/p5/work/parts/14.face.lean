/-! ROWS ARE WRITTEN; the public methods that write -/
theorem clen_mark : clen 4097 = 12 := by decide
theorem clen_3 : clen 3 = 1 := by decide
theorem clen_2 : clen 2 = 1 := by decide
theorem fU_open {G : Nat → Int} {c : Int} (h : 0 ≤ c) : fU G (c.toNat + 2) (G (c.toNat + 1)) ((c + 1).toNat + 1) = fU G (c.toNat + 2) (G (c.toNat + 1)) (c + 1).toNat := by
  rw [show (c + 1).toNat = c.toNat + 1 by omega]
  unfold fU
  rw [if_pos (by omega), if_neg (by omega)]
theorem dX6_writeMark_0 : decode cX6_writeMark 0 = .ok (.aload_n 0, 1) := by decide +kernel
theorem dX6_writeMark_1 : decode cX6_writeMark 1 = .ok (.getfield 19, 3) := by decide +kernel
theorem dX6_writeMark_4 : decode cX6_writeMark 4 = .ok (.sipush 4097, 3) := by decide +kernel
theorem dX6_writeMark_7 : decode cX6_writeMark 7 = .ok (.invokevirtual 42, 3) := by decide +kernel
theorem dX6_writeMark_10 : decode cX6_writeMark 10 = .ok (.iload_n 1, 1) := by decide +kernel
theorem dX6_writeMark_11 : decode cX6_writeMark 11 = .ok (.ifCond .eq 19, 3) := by decide +kernel
theorem dX6_writeMark_14 : decode cX6_writeMark 14 = .ok (.aload_n 0, 1) := by decide +kernel
theorem dX6_writeMark_15 : decode cX6_writeMark 15 = .ok (.getfield 19, 3) := by decide +kernel
theorem dX6_writeMark_18 : decode cX6_writeMark 18 = .ok (.iload_n 2, 1) := by decide +kernel
theorem dX6_writeMark_19 : decode cX6_writeMark 19 = .ok (.ifCond .eq 7, 3) := by decide +kernel
theorem dX6_writeMark_22 : decode cX6_writeMark 22 = .ok (.iconst 3, 1) := by decide +kernel
theorem dX6_writeMark_23 : decode cX6_writeMark 23 = .ok (.goto 4, 3) := by decide +kernel
theorem dX6_writeMark_26 : decode cX6_writeMark 26 = .ok (.iconst 2, 1) := by decide +kernel
theorem dX6_writeMark_27 : decode cX6_writeMark 27 = .ok (.invokevirtual 42, 3) := by decide +kernel
theorem dX6_writeMark_30 : decode cX6_writeMark 30 = .ok (.return_, 1) := by decide +kernel
abbrev po_c_X6_writeMark (g : GG) (h0 : Nat) (r : Nat) (o : Nat) (td : Nat) (w : Int) (ba : Nat) (n : Nat) (f : Nat → Int32) (cb : Int) (pl : Int) (tu : Int) (mx : Int) (od : Int) : Option Value → va_W → Nat → Nat → Prop := fun v8 w8 kc8 ks8 => ∃ b2 : Nat, ∃ n2 : Nat, ∃ f2 : Nat → Int32, ∃ c2 : Int, v8 = none ∧ w8 = [(h0, ob 6 [.ref r, .int (iI w), .ref o, .ref td]), (o, ob 0 [.ref b2, .int (iI c2), .int (iI pl), .int (iI tu)]), (b2, aB g n2 f2)] ∧ (ks8 + 2 * n ≤ 2 * n2 ∧ 64 * kc8 ≤ ks8 ∧ n ≤ n2 ∧ n2 ≤ 130000) ∧ (c2 ≤ 8 * (n2 : Int) ∧ cb ≤ c2) ∧ (bF f2) ∧ (c2 = cb + 12 + mx)
set_option maxHeartbeats 4000000 in
set_option maxRecDepth 100000 in
theorem c_X6_writeMark (l : Launch) (g : GG) (h0 : Nat) (r : Nat) (o : Nat) (td : Nat) (w : Int) (ba : Nat) (n : Nat) (f : Nat → Int32) (cb : Int) (pl : Int) (tu : Int) (mx : Int) (od : Int) (hp0 : 0 ≤ cb ∧ cb ≤ 8 * (n : Int) ∧ 64 ≤ n ∧ n ≤ 130000) (hp1 : bF f) (hp2 : cb ≤ 508000) (hp3 : 0 ≤ mx ∧ mx ≤ 1) (hp4 : 0 ≤ od ∧ od ≤ 1) : CtE l g yX6_writeMark (wM yX6_writeMark cX6_writeMark 3 none) (rmD 4 3 530000) [.ref h0, .int (iI mx), .int (iI od)] [(h0, ob 6 [.ref r, .int (iI w), .ref o, .ref td]), (o, ob 0 [.ref ba, .int (iI cb), .int (iI pl), .int (iI tu)]), (ba, aB g n f)] (po_c_X6_writeMark g h0 r o td w ba n f cb pl tu mx od) := by
  refine CtE_of (by decide +kernel) (Nat.le_of_ble_eq_true rfl) ?_
  intro p9 e9 s9 m9 ag9 bl9 mt9 c9 A9 fx hr hnm
  have k1 := clen_mark
  have k2 := clen_3
  have k3 := clen_2
  refine v_aload_n fx 0 dX6_writeMark_0 rfl rfl ?_
  refine v_get fx 0 2 inX6 k168 dX6_writeMark_1 rfl rfl (by decide) rfl rfl rfl ?_
  refine v_sipush fx dX6_writeMark_4 (by decide +kernel) rfl ?_
  refine v_callVE (As := [.int (iI 4097)]) (rest := []) fx [1, 2] [0] [(o, ob 0 [.ref ba, .int (iI cb), .int (iI pl), .int (iI tu)]), (ba, aB g n f)] [(h0, ob 6 [.ref r, .int (iI w), .ref o, .ref td])] 1 0 (c_X0_addCode l g o ba n f cb pl tu 4097 (by first | omega | decide | assumption) (by first | assumption | exact hp1) (by first | omega | decide | assumption) (by first | omega | decide | assumption)) dX6_writeMark_7 k703 k704 k705 k50 k706 ykX0_addCode rfl rfl rfl rfl rfl rfl rfl rfl (nl rfl) ⟨nl rfl, nl rfl⟩ ⟨(nl rfl), (nl rfl)⟩ rfl (fun v9 w9 kc_1 ks_2 hu => ?_)
  obtain ⟨b2_3, n2_4, f2_5, c2_6, rfl, rfl, u_7, u_8, u_9, u_10, u_11⟩ := hu
  refine v_is (wn := [(h0, ob 6 [.ref r, .int (iI w), .ref o, .ref td]), (o, ob 0 [.ref b2_3, .int (iI c2_6), .int (iI pl), .int (iI tu)]), (b2_3, aB g n2_4 f2_5)]) (cn := kc_1) (sn := ks_2) (sn2 := []) rfl (Nat.zero_add _) (Nat.zero_add _) rfl ?_
  refine v_iload_n fx 1 dX6_writeMark_10 rfl rfl ?_
  refine v_if_eq fx 30 dX6_writeMark_11 (by decide) rfl (by omega) (fun h_12 => ?_) (fun h_12 => ?_)
  ·
    exact v_vretE fx [(h0, ob 6 [.ref r, .int (iI w), .ref o, .ref td]), (o, ob 0 [.ref b2_3, .int (iI c2_6), .int (iI pl), .int (iI tu)]), (b2_3, aB g n2_4 f2_5)] [0, 1, 2] hr dX6_writeMark_30 rfl rfl ⟨b2_3, n2_4, f2_5, c2_6, rfl, rfl, (by first | omega | rfl | assumption), (by first | omega | rfl | assumption), (by assumption), (by first | omega | rfl | assumption)⟩
  ·
    refine v_aload_n fx 0 dX6_writeMark_14 rfl rfl ?_
    refine v_get fx 0 2 inX6 k168 dX6_writeMark_15 rfl rfl (by decide) rfl rfl rfl ?_
    refine v_iload_n fx 2 dX6_writeMark_18 rfl rfl ?_
    refine v_if_eq fx 26 dX6_writeMark_19 (by decide) rfl (by omega) (fun h_13 => ?_) (fun h_13 => ?_)
    ·
      refine v_iconst fx dX6_writeMark_26 rfl ?_
      refine v_callVE (As := [.int (iI 2)]) (rest := []) fx [1, 2] [0] [(o, ob 0 [.ref b2_3, .int (iI c2_6), .int (iI pl), .int (iI tu)]), (b2_3, aB g n2_4 f2_5)] [(h0, ob 6 [.ref r, .int (iI w), .ref o, .ref td])] 1 0 (c_X0_addCode l g o b2_3 n2_4 f2_5 c2_6 pl tu 2 (by first | omega | decide | assumption) (by first | assumption | exact hp1) (by first | omega | decide | assumption) (by first | omega | decide | assumption)) dX6_writeMark_27 k703 k704 k705 k50 k706 ykX0_addCode rfl rfl rfl rfl rfl rfl rfl rfl (nl rfl) ⟨nl rfl, nl rfl⟩ ⟨(by show kc_1 + 1 ≤ 3; omega), (by show ks_2 + 260000 ≤ 530000; omega)⟩ rfl (fun v9 w9 kc_14 ks_15 hu => ?_)
      obtain ⟨b2_16, n2_17, f2_18, c2_19, rfl, rfl, u_20, u_21, u_22, u_23, u_24⟩ := hu
      refine v_is (wn := [(h0, ob 6 [.ref r, .int (iI w), .ref o, .ref td]), (o, ob 0 [.ref b2_16, .int (iI c2_19), .int (iI pl), .int (iI tu)]), (b2_16, aB g n2_17 f2_18)]) (cn := kc_1 + kc_14) (sn := ks_2 + ks_15) (sn2 := []) rfl rfl rfl rfl ?_
      exact v_vretE fx [(h0, ob 6 [.ref r, .int (iI w), .ref o, .ref td]), (o, ob 0 [.ref b2_16, .int (iI c2_19), .int (iI pl), .int (iI tu)]), (b2_16, aB g n2_17 f2_18)] [0, 1, 2] hr dX6_writeMark_30 rfl rfl ⟨b2_16, n2_17, f2_18, c2_19, rfl, rfl, (by first | omega | rfl | assumption), (by first | omega | rfl | assumption), (by assumption), (by first | omega | rfl | assumption)⟩
    ·
      refine v_iconst fx dX6_writeMark_22 rfl ?_
      refine v_goto fx 27 dX6_writeMark_23 (by decide) ?_
      refine v_callVE (As := [.int (iI 3)]) (rest := []) fx [1, 2] [0] [(o, ob 0 [.ref b2_3, .int (iI c2_6), .int (iI pl), .int (iI tu)]), (b2_3, aB g n2_4 f2_5)] [(h0, ob 6 [.ref r, .int (iI w), .ref o, .ref td])] 1 0 (c_X0_addCode l g o b2_3 n2_4 f2_5 c2_6 pl tu 3 (by first | omega | decide | assumption) (by first | assumption | exact hp1) (by first | omega | decide | assumption) (by first | omega | decide | assumption)) dX6_writeMark_27 k703 k704 k705 k50 k706 ykX0_addCode rfl rfl rfl rfl rfl rfl rfl rfl (nl rfl) ⟨nl rfl, nl rfl⟩ ⟨(by show kc_1 + 1 ≤ 3; omega), (by show ks_2 + 260000 ≤ 530000; omega)⟩ rfl (fun v9 w9 kc_25 ks_26 hu => ?_)
      obtain ⟨b2_27, n2_28, f2_29, c2_30, rfl, rfl, u_31, u_32, u_33, u_34, u_35⟩ := hu
      refine v_is (wn := [(h0, ob 6 [.ref r, .int (iI w), .ref o, .ref td]), (o, ob 0 [.ref b2_27, .int (iI c2_30), .int (iI pl), .int (iI tu)]), (b2_27, aB g n2_28 f2_29)]) (cn := kc_1 + kc_25) (sn := ks_2 + ks_26) (sn2 := []) rfl rfl rfl rfl ?_
      exact v_vretE fx [(h0, ob 6 [.ref r, .int (iI w), .ref o, .ref td]), (o, ob 0 [.ref b2_27, .int (iI c2_30), .int (iI pl), .int (iI tu)]), (b2_27, aB g n2_28 f2_29)] [0, 1, 2] hr dX6_writeMark_30 rfl rfl ⟨b2_27, n2_28, f2_29, c2_30, rfl, rfl, (by first | omega | rfl | assumption), (by first | omega | rfl | assumption), (by assumption), (by first | omega | rfl | assumption)⟩
theorem dX6_writeUnmarked_0 : decode cX6_writeUnmarked 0 = .ok (.iconst 0, 1) := by decide +kernel
theorem dX6_writeUnmarked_1 : decode cX6_writeUnmarked 1 = .ok (.istore_n 1, 1) := by decide +kernel
theorem dX6_writeUnmarked_2 : decode cX6_writeUnmarked 2 = .ok (.iload_n 1, 1) := by decide +kernel
theorem dX6_writeUnmarked_3 : decode cX6_writeUnmarked 3 = .ok (.aload_n 0, 1) := by decide +kernel
theorem dX6_writeUnmarked_4 : decode cX6_writeUnmarked 4 = .ok (.getfield 9, 3) := by decide +kernel
theorem dX6_writeUnmarked_7 : decode cX6_writeUnmarked 7 = .ok (.invokevirtual 32, 3) := by decide +kernel
theorem dX6_writeUnmarked_10 : decode cX6_writeUnmarked 10 = .ok (.if_icmp .ge 14, 3) := by decide +kernel
theorem dX6_writeUnmarked_13 : decode cX6_writeUnmarked 13 = .ok (.aload_n 0, 1) := by decide +kernel
theorem dX6_writeUnmarked_14 : decode cX6_writeUnmarked 14 = .ok (.iload_n 1, 1) := by decide +kernel
theorem dX6_writeUnmarked_15 : decode cX6_writeUnmarked 15 = .ok (.invokevirtual 38, 3) := by decide +kernel
theorem dX6_writeUnmarked_18 : decode cX6_writeUnmarked 18 = .ok (.iinc 1 1, 3) := by decide +kernel
theorem dX6_writeUnmarked_21 : decode cX6_writeUnmarked 21 = .ok (.goto (-19), 3) := by decide +kernel
theorem dX6_writeUnmarked_24 : decode cX6_writeUnmarked 24 = .ok (.iconst 0, 1) := by decide +kernel
theorem dX6_writeUnmarked_25 : decode cX6_writeUnmarked 25 = .ok (.istore_n 1, 1) := by decide +kernel
theorem dX6_writeUnmarked_26 : decode cX6_writeUnmarked 26 = .ok (.iload_n 1, 1) := by decide +kernel
theorem dX6_writeUnmarked_27 : decode cX6_writeUnmarked 27 = .ok (.iconst 2, 1) := by decide +kernel
theorem dX6_writeUnmarked_28 : decode cX6_writeUnmarked 28 = .ok (.if_icmp .ge 19, 3) := by decide +kernel
theorem dX6_writeUnmarked_31 : decode cX6_writeUnmarked 31 = .ok (.aload_n 0, 1) := by decide +kernel
theorem dX6_writeUnmarked_32 : decode cX6_writeUnmarked 32 = .ok (.getfield 19, 3) := by decide +kernel
theorem dX6_writeUnmarked_35 : decode cX6_writeUnmarked 35 = .ok (.sipush 4097, 3) := by decide +kernel
theorem dX6_writeUnmarked_38 : decode cX6_writeUnmarked 38 = .ok (.invokevirtual 42, 3) := by decide +kernel
theorem dX6_writeUnmarked_41 : decode cX6_writeUnmarked 41 = .ok (.iinc 1 1, 3) := by decide +kernel
theorem dX6_writeUnmarked_44 : decode cX6_writeUnmarked 44 = .ok (.goto (-18), 3) := by decide +kernel
theorem dX6_writeUnmarked_47 : decode cX6_writeUnmarked 47 = .ok (.return_, 1) := by decide +kernel
abbrev po_c_X6_writeUnmarked (g : GG) (h0 : Nat) (r : Nat) (o : Nat) (td : Nat) (w : Int) (ba : Nat) (n : Nat) (f : Nat → Int32) (cb : Int) (pl : Int) (tu : Int) (rs : Nat) (it : Nat) (m : Nat) (c : Int) (F : Nat → Int) (fs : Nat → Int32) (fi : Nat → Int32) (t1 : Int) (t2 : Int) (t3 : Int) (t4 : Int) : Option Value → va_W → Nat → Nat → Prop := fun v8 w8 kc8 ks8 => ∃ b2 : Nat, ∃ n2 : Nat, ∃ f2 : Nat → Int32, ∃ c2 : Int, ∃ y1 : Int, ∃ y2 : Int, ∃ y3 : Int, ∃ y4 : Int, v8 = none ∧ w8 = [(h0, ob 6 [.ref r, .int (iI w), .ref o, .ref td]), (o, ob 0 [.ref b2, .int (iI c2), .int (iI pl), .int (iI tu)]), (b2, aB g n2 f2), (r, ob 2 [.ref rs, .ref it, .int (iI c)]), (rs, aI g 27 fs), (it, aI g m fi), (td, ob 5 [.ref r, .int (iI w), .int (iI y1), .int (iI y2), .int (iI y3), .int (iI y4)])] ∧ (ks8 + 2 * n ≤ 2 * n2 ∧ 64 * kc8 ≤ ks8 ∧ n ≤ n2 ∧ n2 ≤ 130000) ∧ (c2 ≤ 8 * (n2 : Int) ∧ cb ≤ c2) ∧ (bF f2) ∧ (c2 ≤ 507000)
set_option maxHeartbeats 4000000 in
set_option maxRecDepth 100000 in
theorem c_X6_writeUnmarked (l : Launch) (g : GG) (h0 : Nat) (r : Nat) (o : Nat) (td : Nat) (w : Int) (ba : Nat) (n : Nat) (f : Nat → Int32) (cb : Int) (pl : Int) (tu : Int) (rs : Nat) (it : Nat) (m : Nat) (c : Int) (F : Nat → Int) (fs : Nat → Int32) (fi : Nat → Int32) (t1 : Int) (t2 : Int) (t3 : Int) (t4 : Int) (hp0 : 0 ≤ cb ∧ cb ≤ 8 * (n : Int) ∧ 64 ≤ n ∧ n ≤ 130000) (hp1 : bF f) (hp2 : LB c F fs m) (hp3 : RI w c F fi) (hp4 : c ≤ 24) (hp5 : 1 ≤ w ∧ w ≤ 3000) (hp6 : cb = 0) : CtE l g yX6_writeUnmarked (wM yX6_writeUnmarked cX6_writeUnmarked 2 none) (rmD 6 13000 1070000) [.ref h0] [(h0, ob 6 [.ref r, .int (iI w), .ref o, .ref td]), (o, ob 0 [.ref ba, .int (iI cb), .int (iI pl), .int (iI tu)]), (ba, aB g n f), (r, ob 2 [.ref rs, .ref it, .int (iI c)]), (rs, aI g 27 fs), (it, aI g m fi), (td, ob 5 [.ref r, .int (iI w), .int (iI t1), .int (iI t2), .int (iI t3), .int (iI t4)])] (po_c_X6_writeUnmarked g h0 r o td w ba n f cb pl tu rs it m c F fs fi t1 t2 t3 t4) := by
  refine CtE_of (by decide +kernel) (Nat.le_of_ble_eq_true rfl) ?_
  intro p9 e9 s9 m9 ag9 bl9 mt9 c9 A9 fx hr hnm
  have hc := LB_c hp2
  have k1 := clen_mark
  refine v_iconst fx dX6_writeUnmarked_0 rfl ?_
  refine v_istore_n fx [(1, .int (iI 0)), (0, .ref h0)] dX6_writeUnmarked_1 (by decide) rfl rfl ?_
  have L2 : ∀ (N : Nat) (i : Int) (p1 : Int) (p2_ : Int) (p3 : Int) (p4 : Int) (b1 : Nat) (n1 : Nat) (f1 : Nat → Int32) (c1 : Int) (cl : Nat) (sl : Nat), (bF f1) → (c1 ≤ 8 * (n1 : Int) ∧ cb ≤ c1 ∧ n ≤ n1 ∧ n1 ≤ 130000 ∧ sl + 2 * n ≤ 2 * n1 ∧ 64 * cl ≤ sl) → (0 ≤ i ∧ i ≤ c) → (c1 ≤ 21060 * i) → ((c - i).toNat) < N → V p9 l e9 (rmD 6 13000 1070000) s9 m9 ag9 bl9 mt9 c9 2 g A9 (MQE bl9 (cQE g (po_c_X6_writeUnmarked g h0 r o td w ba n f cb pl tu rs it m c F fs fi t1 t2 t3 t4) A9) ag9 s9 A9) [(h0, ob 6 [.ref r, .int (iI w), .ref o, .ref td]), (o, ob 0 [.ref b1, .int (iI c1), .int (iI pl), .int (iI tu)]), (b1, aB g n1 f1), (r, ob 2 [.ref rs, .ref it, .int (iI c)]), (rs, aI g 27 fs), (it, aI g m fi), (td, ob 5 [.ref r, .int (iI w), .int (iI p1), .int (iI p2_), .int (iI p3), .int (iI p4)])] cl sl [(0, .ref h0), (1, .int (iI i))] 2 [] := by
    intro N
    induction N with
    | zero => intro i p1 p2_ p3 p4 b1 n1 f1 c1 cl sl hi2_0 hi2_1 hi2_2 hi2_3 hN; exact absurd hN (Nat.not_lt_zero _)
    | succ N ihL2 =>
      intro i p1 p2_ p3 p4 b1 n1 f1 c1 cl sl hi2_0 hi2_1 hi2_2 hi2_3 hN2
      refine v_iload_n fx 1 dX6_writeUnmarked_2 rfl rfl ?_
      refine v_aload_n fx 0 dX6_writeUnmarked_3 rfl rfl ?_
      refine v_get fx 0 0 inX6 k166 dX6_writeUnmarked_4 rfl rfl (by decide) rfl rfl rfl ?_
      refine v_callV (As := []) (rest := [.int (iI i)]) fx [3] [0, 1, 2, 4, 5, 6] [(r, ob 2 [.ref rs, .ref it, .int (iI c)])] [(h0, ob 6 [.ref r, .int (iI w), .ref o, .ref td]), (o, ob 0 [.ref b1, .int (iI c1), .int (iI pl), .int (iI tu)]), (b1, aB g n1 f1), (rs, aI g 27 fs), (it, aI g m fi), (td, ob 5 [.ref r, .int (iI w), .int (iI p1), .int (iI p2_), .int (iI p3), .int (iI p4)])] 0 0 (c_X2_count l g r rs it c ) dX6_writeUnmarked_7 k672 k323 k324 k49 k325 ykX2_count rfl rfl rfl rfl rfl rfl rfl rfl (nl rfl) ⟨nl rfl, nl rfl⟩ ⟨(by show cl + 0 ≤ 13000; omega), (by show sl + 0 ≤ 1070000; omega)⟩ rfl (fun v9 w9 hu => ?_)
      obtain ⟨rfl, rfl⟩ := hu
      refine v_is (wn := [(h0, ob 6 [.ref r, .int (iI w), .ref o, .ref td]), (o, ob 0 [.ref b1, .int (iI c1), .int (iI pl), .int (iI tu)]), (b1, aB g n1 f1), (rs, aI g 27 fs), (it, aI g m fi), (td, ob 5 [.ref r, .int (iI w), .int (iI p1), .int (iI p2_), .int (iI p3), .int (iI p4)]), (r, ob 2 [.ref rs, .ref it, .int (iI c)])]) (cn := cl) (sn := sl) (sn2 := [.int (iI c), .int (iI i)]) rfl rfl rfl rfl ?_
      refine v_icmp_ge fx 24 dX6_writeUnmarked_10 (by decide) rfl (by omega) (by omega) (fun h_1 => ?_) (fun h_1 => ?_)
      ·
        refine v_iconst fx dX6_writeUnmarked_24 rfl ?_
        refine v_istore_n fx [(1, .int (iI 0)), (0, .ref h0)] dX6_writeUnmarked_25 (by decide) rfl rfl ?_
        refine v_iload_n fx 0 dX6_writeUnmarked_26 rfl rfl ?_
        refine v_iconst fx dX6_writeUnmarked_27 rfl ?_
        refine v_icmp_ge fx 47 dX6_writeUnmarked_28 (by decide) rfl (by omega) (by omega) (fun h0 => absurd h0 (by omega)) (fun h_2 => ?_)
        refine v_aload_n fx 1 dX6_writeUnmarked_31 rfl rfl ?_
        refine v_get fx 0 2 inX6 k168 dX6_writeUnmarked_32 rfl rfl (by decide) rfl rfl rfl ?_
        refine v_sipush fx dX6_writeUnmarked_35 (by decide +kernel) rfl ?_
        refine v_callVE (As := [.int (iI 4097)]) (rest := []) fx [1, 2] [0, 3, 4, 5, 6] [(o, ob 0 [.ref b1, .int (iI c1), .int (iI pl), .int (iI tu)]), (b1, aB g n1 f1)] [(h0, ob 6 [.ref r, .int (iI w), .ref o, .ref td]), (rs, aI g 27 fs), (it, aI g m fi), (td, ob 5 [.ref r, .int (iI w), .int (iI p1), .int (iI p2_), .int (iI p3), .int (iI p4)]), (r, ob 2 [.ref rs, .ref it, .int (iI c)])] 1 0 (c_X0_addCode l g o b1 n1 f1 c1 pl tu 4097 (by first | omega | decide | assumption) (by first | assumption | exact hi2_0) (by first | omega | decide | assumption) (by first | omega | decide | assumption)) dX6_writeUnmarked_38 k703 k704 k705 k50 k706 ykX0_addCode rfl rfl rfl rfl rfl rfl rfl rfl (nl rfl) ⟨nl rfl, nl rfl⟩ ⟨(by show cl + 1 ≤ 13000; omega), (by show sl + 260000 ≤ 1070000; omega)⟩ rfl (fun v9 w9 kc_3 ks_4 hu => ?_)
        obtain ⟨b2_5, n2_6, f2_7, c2_8, rfl, rfl, u_9, u_10, u_11, u_12, u_13⟩ := hu
        refine v_is (wn := [(h0, ob 6 [.ref r, .int (iI w), .ref o, .ref td]), (rs, aI g 27 fs), (it, aI g m fi), (td, ob 5 [.ref r, .int (iI w), .int (iI p1), .int (iI p2_), .int (iI p3), .int (iI p4)]), (r, ob 2 [.ref rs, .ref it, .int (iI c)]), (o, ob 0 [.ref b2_5, .int (iI c2_8), .int (iI pl), .int (iI tu)]), (b2_5, aB g n2_6 f2_7)]) (cn := cl + kc_3) (sn := sl + ks_4) (sn2 := []) rfl rfl rfl rfl ?_
        refine v_iinc fx 0 (1) [(1, .int (iI 1)), (0, .ref h0)] dX6_writeUnmarked_41 rfl (by omega) (by decide) rfl rfl ?_
        refine v_goto fx 26 dX6_writeUnmarked_44 (by decide) ?_
        refine v_iload_n fx 0 dX6_writeUnmarked_26 rfl rfl ?_
        refine v_iconst fx dX6_writeUnmarked_27 rfl ?_
        refine v_icmp_ge fx 47 dX6_writeUnmarked_28 (by decide) rfl (by omega) (by omega) (fun h0 => absurd h0 (by omega)) (fun h_14 => ?_)
        refine v_aload_n fx 1 dX6_writeUnmarked_31 rfl rfl ?_
        refine v_get fx 0 2 inX6 k168 dX6_writeUnmarked_32 rfl rfl (by decide) rfl rfl rfl ?_
        refine v_sipush fx dX6_writeUnmarked_35 (by decide +kernel) rfl ?_
        refine v_callVE (As := [.int (iI 4097)]) (rest := []) fx [5, 6] [0, 1, 2, 3, 4] [(o, ob 0 [.ref b2_5, .int (iI c2_8), .int (iI pl), .int (iI tu)]), (b2_5, aB g n2_6 f2_7)] [(h0, ob 6 [.ref r, .int (iI w), .ref o, .ref td]), (rs, aI g 27 fs), (it, aI g m fi), (td, ob 5 [.ref r, .int (iI w), .int (iI p1), .int (iI p2_), .int (iI p3), .int (iI p4)]), (r, ob 2 [.ref rs, .ref it, .int (iI c)])] 1 0 (c_X0_addCode l g o b2_5 n2_6 f2_7 c2_8 pl tu 4097 (by first | omega | decide | assumption) (by first | assumption | exact hi2_0) (by first | omega | decide | assumption) (by first | omega | decide | assumption)) dX6_writeUnmarked_38 k703 k704 k705 k50 k706 ykX0_addCode rfl rfl rfl rfl rfl rfl rfl rfl (nl rfl) ⟨nl rfl, nl rfl⟩ ⟨(by show (cl + kc_3) + 1 ≤ 13000; omega), (by show (sl + ks_4) + 260000 ≤ 1070000; omega)⟩ rfl (fun v9 w9 kc_15 ks_16 hu => ?_)
        obtain ⟨b2_17, n2_18, f2_19, c2_20, rfl, rfl, u_21, u_22, u_23, u_24, u_25⟩ := hu
        refine v_is (wn := [(h0, ob 6 [.ref r, .int (iI w), .ref o, .ref td]), (rs, aI g 27 fs), (it, aI g m fi), (td, ob 5 [.ref r, .int (iI w), .int (iI p1), .int (iI p2_), .int (iI p3), .int (iI p4)]), (r, ob 2 [.ref rs, .ref it, .int (iI c)]), (o, ob 0 [.ref b2_17, .int (iI c2_20), .int (iI pl), .int (iI tu)]), (b2_17, aB g n2_18 f2_19)]) (cn := cl + kc_3 + kc_15) (sn := sl + ks_4 + ks_16) (sn2 := []) rfl rfl rfl rfl ?_
        refine v_iinc fx 0 (2) [(1, .int (iI 2)), (0, .ref h0)] dX6_writeUnmarked_41 rfl (by omega) (by decide) rfl rfl ?_
        refine v_goto fx 26 dX6_writeUnmarked_44 (by decide) ?_
        refine v_iload_n fx 0 dX6_writeUnmarked_26 rfl rfl ?_
        refine v_iconst fx dX6_writeUnmarked_27 rfl ?_
        refine v_icmp_ge fx 47 dX6_writeUnmarked_28 (by decide) rfl (by omega) (by omega) (fun h_26 => ?_) (fun h0 => absurd h0 (by omega))
        exact v_vretE fx [(h0, ob 6 [.ref r, .int (iI w), .ref o, .ref td]), (o, ob 0 [.ref b2_17, .int (iI c2_20), .int (iI pl), .int (iI tu)]), (b2_17, aB g n2_18 f2_19), (r, ob 2 [.ref rs, .ref it, .int (iI c)]), (rs, aI g 27 fs), (it, aI g m fi), (td, ob 5 [.ref r, .int (iI w), .int (iI p1), .int (iI p2_), .int (iI p3), .int (iI p4)])] [0, 5, 6, 4, 1, 2, 3] hr dX6_writeUnmarked_47 rfl rfl ⟨b2_17, n2_18, f2_19, c2_20, p1, p2_, p3, p4, rfl, rfl, (by first | omega | rfl | assumption), (by first | omega | rfl | assumption), (by assumption), (by first | omega | rfl | assumption)⟩
      ·
        refine v_aload_n fx 0 dX6_writeUnmarked_13 rfl rfl ?_
        refine v_iload_n fx 1 dX6_writeUnmarked_14 rfl rfl ?_
        refine v_callVE (As := [.int (iI i)]) (rest := []) fx [0, 1, 2, 6, 3, 4, 5] [] [(h0, ob 6 [.ref r, .int (iI w), .ref o, .ref td]), (o, ob 0 [.ref b1, .int (iI c1), .int (iI pl), .int (iI tu)]), (b1, aB g n1 f1), (r, ob 2 [.ref rs, .ref it, .int (iI c)]), (rs, aI g 27 fs), (it, aI g m fi), (td, ob 5 [.ref r, .int (iI w), .int (iI p1), .int (iI p2_), .int (iI p3), .int (iI p4)])] [] 1 0 (c_X6_writeModes l g h0 r o td w b1 n1 f1 c1 pl tu rs it m c F fs fi p1 p2_ p3 p4 i (by first | omega | decide | assumption) (by exact hi2_0) (by first | omega | decide | assumption) (by first | omega | decide | assumption) (by first | omega | decide | assumption) (by first | omega | decide | assumption) (by first | omega | decide | assumption)) dX6_writeUnmarked_15 k673 k675 k6 k51 k676 ykX6_writeModes rfl rfl rfl rfl rfl rfl rfl rfl (nl rfl) ⟨nl rfl, nl rfl⟩ ⟨(by show cl + 8200 ≤ 13000; omega), (by show sl + 800000 ≤ 1070000; omega)⟩ rfl (fun v9 w9 kc_27 ks_28 hu => ?_)
        obtain ⟨b2_29, n2_30, f2_31, c2_32, y1_33, y2_34, y3_35, y4_36, rfl, rfl, u_37, u_38, u_39, u_40⟩ := hu
        refine v_is (wn := [(h0, ob 6 [.ref r, .int (iI w), .ref o, .ref td]), (o, ob 0 [.ref b2_29, .int (iI c2_32), .int (iI pl), .int (iI tu)]), (b2_29, aB g n2_30 f2_31), (r, ob 2 [.ref rs, .ref it, .int (iI c)]), (rs, aI g 27 fs), (it, aI g m fi), (td, ob 5 [.ref r, .int (iI w), .int (iI y1_33), .int (iI y2_34), .int (iI y3_35), .int (iI y4_36)])]) (cn := cl + kc_27) (sn := sl + ks_28) (sn2 := []) rfl rfl rfl rfl ?_
        refine v_iinc fx 1 (i + 1) [(1, .int (iI (i + 1))), (0, .ref h0)] dX6_writeUnmarked_18 rfl (by omega) (by decide) rfl rfl ?_
        refine v_goto fx 2 dX6_writeUnmarked_21 (by decide) ?_
        refine v_lv [1, 0] [(0, .ref h0), (1, .int (iI (i + 1)))] rfl ?_
        exact ihL2 (i + 1) y1_33 y2_34 y3_35 y4_36 b2_29 n2_30 f2_31 c2_32 (cl + kc_27) (sl + ks_28) (by assumption) (by omega) (by omega) (by omega) (by omega)
  refine v_lv [1, 0] [(0, .ref h0), (1, .int (iI 0))] rfl ?_
  exact L2 _ 0 t1 t2 t3 t4 ba n f cb 0 0 (by exact hp1) (by omega) (by omega) (by omega) (Nat.lt_succ_self _)
theorem dX6_writeMarked_0 : decode cX6_writeMarked 0 = .ok (.iconst 0, 1) := by decide +kernel
theorem dX6_writeMarked_1 : decode cX6_writeMarked 1 = .ok (.istore_n 3, 1) := by decide +kernel
theorem dX6_writeMarked_2 : decode cX6_writeMarked 2 = .ok (.iload_n 3, 1) := by decide +kernel
theorem dX6_writeMarked_3 : decode cX6_writeMarked 3 = .ok (.aload_n 0, 1) := by decide +kernel
theorem dX6_writeMarked_4 : decode cX6_writeMarked 4 = .ok (.getfield 9, 3) := by decide +kernel
theorem dX6_writeMarked_7 : decode cX6_writeMarked 7 = .ok (.invokevirtual 32, 3) := by decide +kernel
theorem dX6_writeMarked_10 : decode cX6_writeMarked 10 = .ok (.if_icmp .ge 83, 3) := by decide +kernel
theorem dX6_writeMarked_13 : decode cX6_writeMarked 13 = .ok (.iload_n 1, 1) := by decide +kernel
theorem dX6_writeMarked_14 : decode cX6_writeMarked 14 = .ok (.ifCond .eq 9, 3) := by decide +kernel
theorem dX6_writeMarked_17 : decode cX6_writeMarked 17 = .ok (.iload_n 3, 1) := by decide +kernel
theorem dX6_writeMarked_18 : decode cX6_writeMarked 18 = .ok (.iconst 4, 1) := by decide +kernel
theorem dX6_writeMarked_19 : decode cX6_writeMarked 19 = .ok (.irem, 1) := by decide +kernel
theorem dX6_writeMarked_20 : decode cX6_writeMarked 20 = .ok (.ifCond .ne 7, 3) := by decide +kernel
theorem dX6_writeMarked_23 : decode cX6_writeMarked 23 = .ok (.iconst 1, 1) := by decide +kernel
theorem dX6_writeMarked_24 : decode cX6_writeMarked 24 = .ok (.goto 4, 3) := by decide +kernel
theorem dX6_writeMarked_27 : decode cX6_writeMarked 27 = .ok (.iconst 0, 1) := by decide +kernel
theorem dX6_writeMarked_28 : decode cX6_writeMarked 28 = .ok (.istore 4, 2) := by decide +kernel
theorem dX6_writeMarked_30 : decode cX6_writeMarked 30 = .ok (.aload_n 0, 1) := by decide +kernel
theorem dX6_writeMarked_31 : decode cX6_writeMarked 31 = .ok (.iload_n 1, 1) := by decide +kernel
theorem dX6_writeMarked_32 : decode cX6_writeMarked 32 = .ok (.iload 4, 2) := by decide +kernel
theorem dX6_writeMarked_34 : decode cX6_writeMarked 34 = .ok (.invokevirtual 47, 3) := by decide +kernel
theorem dX6_writeMarked_37 : decode cX6_writeMarked 37 = .ok (.aload_n 0, 1) := by decide +kernel
theorem dX6_writeMarked_38 : decode cX6_writeMarked 38 = .ok (.getfield 19, 3) := by decide +kernel
theorem dX6_writeMarked_41 : decode cX6_writeMarked 41 = .ok (.invokevirtual 51, 3) := by decide +kernel
theorem dX6_writeMarked_44 : decode cX6_writeMarked 44 = .ok (.istore 5, 2) := by decide +kernel
theorem dX6_writeMarked_46 : decode cX6_writeMarked 46 = .ok (.iload 4, 2) := by decide +kernel
theorem dX6_writeMarked_48 : decode cX6_writeMarked 48 = .ok (.ifCond .eq 11, 3) := by decide +kernel
theorem dX6_writeMarked_51 : decode cX6_writeMarked 51 = .ok (.aload_n 0, 1) := by decide +kernel
theorem dX6_writeMarked_52 : decode cX6_writeMarked 52 = .ok (.iload_n 3, 1) := by decide +kernel
theorem dX6_writeMarked_53 : decode cX6_writeMarked 53 = .ok (.invokevirtual 52, 3) := by decide +kernel
theorem dX6_writeMarked_56 : decode cX6_writeMarked 56 = .ok (.goto 8, 3) := by decide +kernel
theorem dX6_writeMarked_59 : decode cX6_writeMarked 59 = .ok (.aload_n 0, 1) := by decide +kernel
theorem dX6_writeMarked_60 : decode cX6_writeMarked 60 = .ok (.iload_n 3, 1) := by decide +kernel
theorem dX6_writeMarked_61 : decode cX6_writeMarked 61 = .ok (.invokevirtual 38, 3) := by decide +kernel
theorem dX6_writeMarked_64 : decode cX6_writeMarked 64 = .ok (.aload_n 0, 1) := by decide +kernel
theorem dX6_writeMarked_65 : decode cX6_writeMarked 65 = .ok (.getfield 19, 3) := by decide +kernel
theorem dX6_writeMarked_68 : decode cX6_writeMarked 68 = .ok (.iconst 0, 1) := by decide +kernel
theorem dX6_writeMarked_69 : decode cX6_writeMarked 69 = .ok (.iload_n 2, 1) := by decide +kernel
theorem dX6_writeMarked_70 : decode cX6_writeMarked 70 = .ok (.aload_n 0, 1) := by decide +kernel
theorem dX6_writeMarked_71 : decode cX6_writeMarked 71 = .ok (.getfield 19, 3) := by decide +kernel
theorem dX6_writeMarked_74 : decode cX6_writeMarked 74 = .ok (.invokevirtual 51, 3) := by decide +kernel
theorem dX6_writeMarked_77 : decode cX6_writeMarked 77 = .ok (.iload 5, 2) := by decide +kernel
theorem dX6_writeMarked_79 : decode cX6_writeMarked 79 = .ok (.isub, 1) := by decide +kernel
theorem dX6_writeMarked_80 : decode cX6_writeMarked 80 = .ok (.isub, 1) := by decide +kernel
theorem dX6_writeMarked_81 : decode cX6_writeMarked 81 = .ok (.invokestatic 55, 3) := by decide +kernel
theorem dX6_writeMarked_84 : decode cX6_writeMarked 84 = .ok (.invokevirtual 61, 3) := by decide +kernel
theorem dX6_writeMarked_87 : decode cX6_writeMarked 87 = .ok (.iinc 3 1, 3) := by decide +kernel
theorem dX6_writeMarked_90 : decode cX6_writeMarked 90 = .ok (.goto (-88), 3) := by decide +kernel
theorem dX6_writeMarked_93 : decode cX6_writeMarked 93 = .ok (.iconst 0, 1) := by decide +kernel
theorem dX6_writeMarked_94 : decode cX6_writeMarked 94 = .ok (.istore_n 3, 1) := by decide +kernel
theorem dX6_writeMarked_95 : decode cX6_writeMarked 95 = .ok (.iload_n 3, 1) := by decide +kernel
theorem dX6_writeMarked_96 : decode cX6_writeMarked 96 = .ok (.bipush 6, 2) := by decide +kernel
theorem dX6_writeMarked_98 : decode cX6_writeMarked 98 = .ok (.if_icmp .ge 15, 3) := by decide +kernel
theorem dX6_writeMarked_101 : decode cX6_writeMarked 101 = .ok (.aload_n 0, 1) := by decide +kernel
theorem dX6_writeMarked_102 : decode cX6_writeMarked 102 = .ok (.iload_n 1, 1) := by decide +kernel
theorem dX6_writeMarked_103 : decode cX6_writeMarked 103 = .ok (.iconst 1, 1) := by decide +kernel
theorem dX6_writeMarked_104 : decode cX6_writeMarked 104 = .ok (.invokevirtual 47, 3) := by decide +kernel
theorem dX6_writeMarked_107 : decode cX6_writeMarked 107 = .ok (.iinc 3 1, 3) := by decide +kernel
theorem dX6_writeMarked_110 : decode cX6_writeMarked 110 = .ok (.goto (-15), 3) := by decide +kernel
theorem dX6_writeMarked_113 : decode cX6_writeMarked 113 = .ok (.return_, 1) := by decide +kernel
abbrev po_c_X6_writeMarked (g : GG) (h0 : Nat) (r : Nat) (o : Nat) (td : Nat) (w : Int) (ba : Nat) (n : Nat) (f : Nat → Int32) (cb : Int) (pl : Int) (tu : Int) (rs : Nat) (it : Nat) (m : Nat) (c : Int) (F : Nat → Int) (fs : Nat → Int32) (fi : Nat → Int32) (t1 : Int) (t2 : Int) (t3 : Int) (t4 : Int) (mx : Int) (fl : Int) : Option Value → va_W → Nat → Nat → Prop := fun v8 w8 kc8 ks8 => ∃ b2 : Nat, ∃ n2 : Nat, ∃ f2 : Nat → Int32, ∃ c2 : Int, ∃ y1 : Int, ∃ y2 : Int, ∃ y3 : Int, ∃ y4 : Int, v8 = none ∧ w8 = [(h0, ob 6 [.ref r, .int (iI w), .ref o, .ref td]), (o, ob 0 [.ref b2, .int (iI c2), .int (iI pl), .int (iI tu)]), (b2, aB g n2 f2), (r, ob 2 [.ref rs, .ref it, .int (iI c)]), (rs, aI g 27 fs), (it, aI g m fi), (td, ob 5 [.ref r, .int (iI w), .int (iI y1), .int (iI y2), .int (iI y3), .int (iI y4)])] ∧ (ks8 + 2 * n ≤ 2 * n2 ∧ 64 * kc8 ≤ ks8 ∧ n ≤ n2 ∧ n2 ≤ 130000) ∧ (c2 ≤ 8 * (n2 : Int) ∧ cb ≤ c2) ∧ (bF f2) ∧ (c2 ≤ 507000)
set_option maxHeartbeats 4000000 in
set_option maxRecDepth 100000 in
theorem c_X6_writeMarked (l : Launch) (g : GG) (h0 : Nat) (r : Nat) (o : Nat) (td : Nat) (w : Int) (ba : Nat) (n : Nat) (f : Nat → Int32) (cb : Int) (pl : Int) (tu : Int) (rs : Nat) (it : Nat) (m : Nat) (c : Int) (F : Nat → Int) (fs : Nat → Int32) (fi : Nat → Int32) (t1 : Int) (t2 : Int) (t3 : Int) (t4 : Int) (mx : Int) (fl : Int) (hp0 : 0 ≤ cb ∧ cb ≤ 8 * (n : Int) ∧ 64 ≤ n ∧ n ≤ 130000) (hp1 : bF f) (hp2 : LB c F fs m) (hp3 : RI w c F fi) (hp4 : c ≤ 24) (hp5 : 1 ≤ w ∧ w ≤ 3000) (hp6 : cb = 0) (hp7 : 0 ≤ mx ∧ mx ≤ 1) (hp8 : 0 ≤ fl ∧ fl ≤ 4000) : CtE l g yX6_writeMarked (wM yX6_writeMarked cX6_writeMarked 6 none) (rmD 6 13000 1070000) [.ref h0, .int (iI mx), .int (iI fl)] [(h0, ob 6 [.ref r, .int (iI w), .ref o, .ref td]), (o, ob 0 [.ref ba, .int (iI cb), .int (iI pl), .int (iI tu)]), (ba, aB g n f), (r, ob 2 [.ref rs, .ref it, .int (iI c)]), (rs, aI g 27 fs), (it, aI g m fi), (td, ob 5 [.ref r, .int (iI w), .int (iI t1), .int (iI t2), .int (iI t3), .int (iI t4)])] (po_c_X6_writeMarked g h0 r o td w ba n f cb pl tu rs it m c F fs fi t1 t2 t3 t4 mx fl) := by
  refine CtE_of (by decide +kernel) (Nat.le_of_ble_eq_true rfl) ?_
  intro p9 e9 s9 m9 ag9 bl9 mt9 c9 A9 fx hr hnm
  have hc := LB_c hp2
  refine v_iconst fx dX6_writeMarked_0 rfl ?_
  refine v_istore_n fx [(3, .int (iI 0)), (0, .ref h0), (1, .int (iI mx)), (2, .int (iI fl))] dX6_writeMarked_1 (by decide) rfl rfl ?_
  have L2 : ∀ (N : Nat) (i : Int) (p1 : Int) (p2_ : Int) (p3 : Int) (p4 : Int) (b1 : Nat) (n1 : Nat) (f1 : Nat → Int32) (c1 : Int) (cl : Nat) (sl : Nat), (bF f1) → (c1 ≤ 8 * (n1 : Int) ∧ cb ≤ c1 ∧ n ≤ n1 ∧ n1 ≤ 130000 ∧ sl + 2 * n ≤ 2 * n1 ∧ 64 * cl ≤ sl) → (0 ≤ i ∧ i ≤ c) → (c1 ≤ 21060 * i) → ((c - i).toNat) < N → V p9 l e9 (rmD 6 13000 1070000) s9 m9 ag9 bl9 mt9 c9 6 g A9 (MQE bl9 (cQE g (po_c_X6_writeMarked g h0 r o td w ba n f cb pl tu rs it m c F fs fi t1 t2 t3 t4 mx fl) A9) ag9 s9 A9) [(h0, ob 6 [.ref r, .int (iI w), .ref o, .ref td]), (o, ob 0 [.ref b1, .int (iI c1), .int (iI pl), .int (iI tu)]), (b1, aB g n1 f1), (r, ob 2 [.ref rs, .ref it, .int (iI c)]), (rs, aI g 27 fs), (it, aI g m fi), (td, ob 5 [.ref r, .int (iI w), .int (iI p1), .int (iI p2_), .int (iI p3), .int (iI p4)])] cl sl [(0, .ref h0), (1, .int (iI mx)), (2, .int (iI fl)), (3, .int (iI i))] 2 [] := by
    intro N
    induction N with
    | zero => intro i p1 p2_ p3 p4 b1 n1 f1 c1 cl sl hi2_0 hi2_1 hi2_2 hi2_3 hN; exact absurd hN (Nat.not_lt_zero _)
    | succ N ihL2 =>
      intro i p1 p2_ p3 p4 b1 n1 f1 c1 cl sl hi2_0 hi2_1 hi2_2 hi2_3 hN2
      refine v_iload_n fx 3 dX6_writeMarked_2 rfl rfl ?_
      refine v_aload_n fx 0 dX6_writeMarked_3 rfl rfl ?_
      refine v_get fx 0 0 inX6 k166 dX6_writeMarked_4 rfl rfl (by decide) rfl rfl rfl ?_
      refine v_callV (As := []) (rest := [.int (iI i)]) fx [3] [0, 1, 2, 4, 5, 6] [(r, ob 2 [.ref rs, .ref it, .int (iI c)])] [(h0, ob 6 [.ref r, .int (iI w), .ref o, .ref td]), (o, ob 0 [.ref b1, .int (iI c1), .int (iI pl), .int (iI tu)]), (b1, aB g n1 f1), (rs, aI g 27 fs), (it, aI g m fi), (td, ob 5 [.ref r, .int (iI w), .int (iI p1), .int (iI p2_), .int (iI p3), .int (iI p4)])] 0 0 (c_X2_count l g r rs it c ) dX6_writeMarked_7 k672 k323 k324 k49 k325 ykX2_count rfl rfl rfl rfl rfl rfl rfl rfl (nl rfl) ⟨nl rfl, nl rfl⟩ ⟨(by show cl + 0 ≤ 13000; omega), (by show sl + 0 ≤ 1070000; omega)⟩ rfl (fun v9 w9 hu => ?_)
      obtain ⟨rfl, rfl⟩ := hu
      refine v_is (wn := [(h0, ob 6 [.ref r, .int (iI w), .ref o, .ref td]), (o, ob 0 [.ref b1, .int (iI c1), .int (iI pl), .int (iI tu)]), (b1, aB g n1 f1), (rs, aI g 27 fs), (it, aI g m fi), (td, ob 5 [.ref r, .int (iI w), .int (iI p1), .int (iI p2_), .int (iI p3), .int (iI p4)]), (r, ob 2 [.ref rs, .ref it, .int (iI c)])]) (cn := cl) (sn := sl) (sn2 := [.int (iI c), .int (iI i)]) rfl rfl rfl rfl ?_
      refine v_icmp_ge fx 93 dX6_writeMarked_10 (by decide) rfl (by omega) (by omega) (fun h_1 => ?_) (fun h_1 => ?_)
      ·
        refine v_iconst fx dX6_writeMarked_93 rfl ?_
        refine v_istore_n fx [(3, .int (iI 0)), (0, .ref h0), (1, .int (iI mx)), (2, .int (iI fl))] dX6_writeMarked_94 (by decide) rfl rfl ?_
        refine v_iload_n fx 0 dX6_writeMarked_95 rfl rfl ?_
        refine v_bipush fx dX6_writeMarked_96 (by decide +kernel) rfl ?_
        refine v_icmp_ge fx 113 dX6_writeMarked_98 (by decide) rfl (by omega) (by omega) (fun h0 => absurd h0 (by omega)) (fun h_2 => ?_)
        refine v_aload_n fx 1 dX6_writeMarked_101 rfl rfl ?_
        refine v_iload_n fx 2 dX6_writeMarked_102 rfl rfl ?_
        refine v_iconst fx dX6_writeMarked_103 rfl ?_
        refine v_callVE (As := [.int (iI mx), .int (iI 1)]) (rest := []) fx [0, 1, 2] [3, 4, 5, 6] [(h0, ob 6 [.ref r, .int (iI w), .ref o, .ref td]), (o, ob 0 [.ref b1, .int (iI c1), .int (iI pl), .int (iI tu)]), (b1, aB g n1 f1)] [(rs, aI g 27 fs), (it, aI g m fi), (td, ob 5 [.ref r, .int (iI w), .int (iI p1), .int (iI p2_), .int (iI p3), .int (iI p4)]), (r, ob 2 [.ref rs, .ref it, .int (iI c)])] 2 0 (c_X6_writeMark l g h0 r o td w b1 n1 f1 c1 pl tu mx 1 (by first | omega | decide | assumption) (by first | assumption | exact hi2_0) (by first | omega | decide | assumption) (by first | omega | decide | assumption) (by first | omega | decide | assumption)) dX6_writeMarked_104 k751 k753 k11 k51 k754 ykX6_writeMark rfl rfl rfl rfl rfl rfl rfl rfl (nl rfl) ⟨nl rfl, nl rfl⟩ ⟨(by show cl + 3 ≤ 13000; omega), (by show sl + 530000 ≤ 1070000; omega)⟩ rfl (fun v9 w9 kc_3 ks_4 hu => ?_)
        obtain ⟨b2_5, n2_6, f2_7, c2_8, rfl, rfl, u_9, u_10, u_11, u_12⟩ := hu
        refine v_is (wn := [(rs, aI g 27 fs), (it, aI g m fi), (td, ob 5 [.ref r, .int (iI w), .int (iI p1), .int (iI p2_), .int (iI p3), .int (iI p4)]), (r, ob 2 [.ref rs, .ref it, .int (iI c)]), (h0, ob 6 [.ref r, .int (iI w), .ref o, .ref td]), (o, ob 0 [.ref b2_5, .int (iI c2_8), .int (iI pl), .int (iI tu)]), (b2_5, aB g n2_6 f2_7)]) (cn := cl + kc_3) (sn := sl + ks_4) (sn2 := []) rfl rfl rfl rfl ?_
        refine v_iinc fx 0 (1) [(3, .int (iI 1)), (0, .ref h0), (1, .int (iI mx)), (2, .int (iI fl))] dX6_writeMarked_107 rfl (by omega) (by decide) rfl rfl ?_
        refine v_goto fx 95 dX6_writeMarked_110 (by decide) ?_
        refine v_iload_n fx 0 dX6_writeMarked_95 rfl rfl ?_
        refine v_bipush fx dX6_writeMarked_96 (by decide +kernel) rfl ?_
        refine v_icmp_ge fx 113 dX6_writeMarked_98 (by decide) rfl (by omega) (by omega) (fun h0 => absurd h0 (by omega)) (fun h_13 => ?_)
        refine v_aload_n fx 1 dX6_writeMarked_101 rfl rfl ?_
        refine v_iload_n fx 2 dX6_writeMarked_102 rfl rfl ?_
        refine v_iconst fx dX6_writeMarked_103 rfl ?_
        refine v_callVE (As := [.int (iI mx), .int (iI 1)]) (rest := []) fx [4, 5, 6] [0, 1, 2, 3] [(h0, ob 6 [.ref r, .int (iI w), .ref o, .ref td]), (o, ob 0 [.ref b2_5, .int (iI c2_8), .int (iI pl), .int (iI tu)]), (b2_5, aB g n2_6 f2_7)] [(rs, aI g 27 fs), (it, aI g m fi), (td, ob 5 [.ref r, .int (iI w), .int (iI p1), .int (iI p2_), .int (iI p3), .int (iI p4)]), (r, ob 2 [.ref rs, .ref it, .int (iI c)])] 2 0 (c_X6_writeMark l g h0 r o td w b2_5 n2_6 f2_7 c2_8 pl tu mx 1 (by first | omega | decide | assumption) (by first | assumption | exact hi2_0) (by first | omega | decide | assumption) (by first | omega | decide | assumption) (by first | omega | decide | assumption)) dX6_writeMarked_104 k751 k753 k11 k51 k754 ykX6_writeMark rfl rfl rfl rfl rfl rfl rfl rfl (nl rfl) ⟨nl rfl, nl rfl⟩ ⟨(by show (cl + kc_3) + 3 ≤ 13000; omega), (by show (sl + ks_4) + 530000 ≤ 1070000; omega)⟩ rfl (fun v9 w9 kc_14 ks_15 hu => ?_)
        obtain ⟨b2_16, n2_17, f2_18, c2_19, rfl, rfl, u_20, u_21, u_22, u_23⟩ := hu
        refine v_is (wn := [(rs, aI g 27 fs), (it, aI g m fi), (td, ob 5 [.ref r, .int (iI w), .int (iI p1), .int (iI p2_), .int (iI p3), .int (iI p4)]), (r, ob 2 [.ref rs, .ref it, .int (iI c)]), (h0, ob 6 [.ref r, .int (iI w), .ref o, .ref td]), (o, ob 0 [.ref b2_16, .int (iI c2_19), .int (iI pl), .int (iI tu)]), (b2_16, aB g n2_17 f2_18)]) (cn := cl + kc_3 + kc_14) (sn := sl + ks_4 + ks_15) (sn2 := []) rfl rfl rfl rfl ?_
        refine v_iinc fx 0 (2) [(3, .int (iI 2)), (0, .ref h0), (1, .int (iI mx)), (2, .int (iI fl))] dX6_writeMarked_107 rfl (by omega) (by decide) rfl rfl ?_
        refine v_goto fx 95 dX6_writeMarked_110 (by decide) ?_
        refine v_iload_n fx 0 dX6_writeMarked_95 rfl rfl ?_
        refine v_bipush fx dX6_writeMarked_96 (by decide +kernel) rfl ?_
        refine v_icmp_ge fx 113 dX6_writeMarked_98 (by decide) rfl (by omega) (by omega) (fun h0 => absurd h0 (by omega)) (fun h_24 => ?_)
        refine v_aload_n fx 1 dX6_writeMarked_101 rfl rfl ?_
        refine v_iload_n fx 2 dX6_writeMarked_102 rfl rfl ?_
        refine v_iconst fx dX6_writeMarked_103 rfl ?_
        refine v_callVE (As := [.int (iI mx), .int (iI 1)]) (rest := []) fx [4, 5, 6] [0, 1, 2, 3] [(h0, ob 6 [.ref r, .int (iI w), .ref o, .ref td]), (o, ob 0 [.ref b2_16, .int (iI c2_19), .int (iI pl), .int (iI tu)]), (b2_16, aB g n2_17 f2_18)] [(rs, aI g 27 fs), (it, aI g m fi), (td, ob 5 [.ref r, .int (iI w), .int (iI p1), .int (iI p2_), .int (iI p3), .int (iI p4)]), (r, ob 2 [.ref rs, .ref it, .int (iI c)])] 2 0 (c_X6_writeMark l g h0 r o td w b2_16 n2_17 f2_18 c2_19 pl tu mx 1 (by first | omega | decide | assumption) (by first | assumption | exact hi2_0) (by first | omega | decide | assumption) (by first | omega | decide | assumption) (by first | omega | decide | assumption)) dX6_writeMarked_104 k751 k753 k11 k51 k754 ykX6_writeMark rfl rfl rfl rfl rfl rfl rfl rfl (nl rfl) ⟨nl rfl, nl rfl⟩ ⟨(by show (cl + kc_3 + kc_14) + 3 ≤ 13000; omega), (by show (sl + ks_4 + ks_15) + 530000 ≤ 1070000; omega)⟩ rfl (fun v9 w9 kc_25 ks_26 hu => ?_)
        obtain ⟨b2_27, n2_28, f2_29, c2_30, rfl, rfl, u_31, u_32, u_33, u_34⟩ := hu
        refine v_is (wn := [(rs, aI g 27 fs), (it, aI g m fi), (td, ob 5 [.ref r, .int (iI w), .int (iI p1), .int (iI p2_), .int (iI p3), .int (iI p4)]), (r, ob 2 [.ref rs, .ref it, .int (iI c)]), (h0, ob 6 [.ref r, .int (iI w), .ref o, .ref td]), (o, ob 0 [.ref b2_27, .int (iI c2_30), .int (iI pl), .int (iI tu)]), (b2_27, aB g n2_28 f2_29)]) (cn := cl + kc_3 + kc_14 + kc_25) (sn := sl + ks_4 + ks_15 + ks_26) (sn2 := []) rfl rfl rfl rfl ?_
        refine v_iinc fx 0 (3) [(3, .int (iI 3)), (0, .ref h0), (1, .int (iI mx)), (2, .int (iI fl))] dX6_writeMarked_107 rfl (by omega) (by decide) rfl rfl ?_
        refine v_goto fx 95 dX6_writeMarked_110 (by decide) ?_
        refine v_iload_n fx 0 dX6_writeMarked_95 rfl rfl ?_
        refine v_bipush fx dX6_writeMarked_96 (by decide +kernel) rfl ?_
        refine v_icmp_ge fx 113 dX6_writeMarked_98 (by decide) rfl (by omega) (by omega) (fun h0 => absurd h0 (by omega)) (fun h_35 => ?_)
        refine v_aload_n fx 1 dX6_writeMarked_101 rfl rfl ?_
        refine v_iload_n fx 2 dX6_writeMarked_102 rfl rfl ?_
        refine v_iconst fx dX6_writeMarked_103 rfl ?_
        refine v_callVE (As := [.int (iI mx), .int (iI 1)]) (rest := []) fx [4, 5, 6] [0, 1, 2, 3] [(h0, ob 6 [.ref r, .int (iI w), .ref o, .ref td]), (o, ob 0 [.ref b2_27, .int (iI c2_30), .int (iI pl), .int (iI tu)]), (b2_27, aB g n2_28 f2_29)] [(rs, aI g 27 fs), (it, aI g m fi), (td, ob 5 [.ref r, .int (iI w), .int (iI p1), .int (iI p2_), .int (iI p3), .int (iI p4)]), (r, ob 2 [.ref rs, .ref it, .int (iI c)])] 2 0 (c_X6_writeMark l g h0 r o td w b2_27 n2_28 f2_29 c2_30 pl tu mx 1 (by first | omega | decide | assumption) (by first | assumption | exact hi2_0) (by first | omega | decide | assumption) (by first | omega | decide | assumption) (by first | omega | decide | assumption)) dX6_writeMarked_104 k751 k753 k11 k51 k754 ykX6_writeMark rfl rfl rfl rfl rfl rfl rfl rfl (nl rfl) ⟨nl rfl, nl rfl⟩ ⟨(by show (cl + kc_3 + kc_14 + kc_25) + 3 ≤ 13000; omega), (by show (sl + ks_4 + ks_15 + ks_26) + 530000 ≤ 1070000; omega)⟩ rfl (fun v9 w9 kc_36 ks_37 hu => ?_)
        obtain ⟨b2_38, n2_39, f2_40, c2_41, rfl, rfl, u_42, u_43, u_44, u_45⟩ := hu
        refine v_is (wn := [(rs, aI g 27 fs), (it, aI g m fi), (td, ob 5 [.ref r, .int (iI w), .int (iI p1), .int (iI p2_), .int (iI p3), .int (iI p4)]), (r, ob 2 [.ref rs, .ref it, .int (iI c)]), (h0, ob 6 [.ref r, .int (iI w), .ref o, .ref td]), (o, ob 0 [.ref b2_38, .int (iI c2_41), .int (iI pl), .int (iI tu)]), (b2_38, aB g n2_39 f2_40)]) (cn := cl + kc_3 + kc_14 + kc_25 + kc_36) (sn := sl + ks_4 + ks_15 + ks_26 + ks_37) (sn2 := []) rfl rfl rfl rfl ?_
        refine v_iinc fx 0 (4) [(3, .int (iI 4)), (0, .ref h0), (1, .int (iI mx)), (2, .int (iI fl))] dX6_writeMarked_107 rfl (by omega) (by decide) rfl rfl ?_
        refine v_goto fx 95 dX6_writeMarked_110 (by decide) ?_
        refine v_iload_n fx 0 dX6_writeMarked_95 rfl rfl ?_
        refine v_bipush fx dX6_writeMarked_96 (by decide +kernel) rfl ?_
        refine v_icmp_ge fx 113 dX6_writeMarked_98 (by decide) rfl (by omega) (by omega) (fun h0 => absurd h0 (by omega)) (fun h_46 => ?_)
        refine v_aload_n fx 1 dX6_writeMarked_101 rfl rfl ?_
        refine v_iload_n fx 2 dX6_writeMarked_102 rfl rfl ?_
        refine v_iconst fx dX6_writeMarked_103 rfl ?_
        refine v_callVE (As := [.int (iI mx), .int (iI 1)]) (rest := []) fx [4, 5, 6] [0, 1, 2, 3] [(h0, ob 6 [.ref r, .int (iI w), .ref o, .ref td]), (o, ob 0 [.ref b2_38, .int (iI c2_41), .int (iI pl), .int (iI tu)]), (b2_38, aB g n2_39 f2_40)] [(rs, aI g 27 fs), (it, aI g m fi), (td, ob 5 [.ref r, .int (iI w), .int (iI p1), .int (iI p2_), .int (iI p3), .int (iI p4)]), (r, ob 2 [.ref rs, .ref it, .int (iI c)])] 2 0 (c_X6_writeMark l g h0 r o td w b2_38 n2_39 f2_40 c2_41 pl tu mx 1 (by first | omega | decide | assumption) (by first | assumption | exact hi2_0) (by first | omega | decide | assumption) (by first | omega | decide | assumption) (by first | omega | decide | assumption)) dX6_writeMarked_104 k751 k753 k11 k51 k754 ykX6_writeMark rfl rfl rfl rfl rfl rfl rfl rfl (nl rfl) ⟨nl rfl, nl rfl⟩ ⟨(by show (cl + kc_3 + kc_14 + kc_25 + kc_36) + 3 ≤ 13000; omega), (by show (sl + ks_4 + ks_15 + ks_26 + ks_37) + 530000 ≤ 1070000; omega)⟩ rfl (fun v9 w9 kc_47 ks_48 hu => ?_)
        obtain ⟨b2_49, n2_50, f2_51, c2_52, rfl, rfl, u_53, u_54, u_55, u_56⟩ := hu
        refine v_is (wn := [(rs, aI g 27 fs), (it, aI g m fi), (td, ob 5 [.ref r, .int (iI w), .int (iI p1), .int (iI p2_), .int (iI p3), .int (iI p4)]), (r, ob 2 [.ref rs, .ref it, .int (iI c)]), (h0, ob 6 [.ref r, .int (iI w), .ref o, .ref td]), (o, ob 0 [.ref b2_49, .int (iI c2_52), .int (iI pl), .int (iI tu)]), (b2_49, aB g n2_50 f2_51)]) (cn := cl + kc_3 + kc_14 + kc_25 + kc_36 + kc_47) (sn := sl + ks_4 + ks_15 + ks_26 + ks_37 + ks_48) (sn2 := []) rfl rfl rfl rfl ?_
        refine v_iinc fx 0 (5) [(3, .int (iI 5)), (0, .ref h0), (1, .int (iI mx)), (2, .int (iI fl))] dX6_writeMarked_107 rfl (by omega) (by decide) rfl rfl ?_
        refine v_goto fx 95 dX6_writeMarked_110 (by decide) ?_
        refine v_iload_n fx 0 dX6_writeMarked_95 rfl rfl ?_
        refine v_bipush fx dX6_writeMarked_96 (by decide +kernel) rfl ?_
        refine v_icmp_ge fx 113 dX6_writeMarked_98 (by decide) rfl (by omega) (by omega) (fun h0 => absurd h0 (by omega)) (fun h_57 => ?_)
        refine v_aload_n fx 1 dX6_writeMarked_101 rfl rfl ?_
        refine v_iload_n fx 2 dX6_writeMarked_102 rfl rfl ?_
        refine v_iconst fx dX6_writeMarked_103 rfl ?_
        refine v_callVE (As := [.int (iI mx), .int (iI 1)]) (rest := []) fx [4, 5, 6] [0, 1, 2, 3] [(h0, ob 6 [.ref r, .int (iI w), .ref o, .ref td]), (o, ob 0 [.ref b2_49, .int (iI c2_52), .int (iI pl), .int (iI tu)]), (b2_49, aB g n2_50 f2_51)] [(rs, aI g 27 fs), (it, aI g m fi), (td, ob 5 [.ref r, .int (iI w), .int (iI p1), .int (iI p2_), .int (iI p3), .int (iI p4)]), (r, ob 2 [.ref rs, .ref it, .int (iI c)])] 2 0 (c_X6_writeMark l g h0 r o td w b2_49 n2_50 f2_51 c2_52 pl tu mx 1 (by first | omega | decide | assumption) (by first | assumption | exact hi2_0) (by first | omega | decide | assumption) (by first | omega | decide | assumption) (by first | omega | decide | assumption)) dX6_writeMarked_104 k751 k753 k11 k51 k754 ykX6_writeMark rfl rfl rfl rfl rfl rfl rfl rfl (nl rfl) ⟨nl rfl, nl rfl⟩ ⟨(by show (cl + kc_3 + kc_14 + kc_25 + kc_36 + kc_47) + 3 ≤ 13000; omega), (by show (sl + ks_4 + ks_15 + ks_26 + ks_37 + ks_48) + 530000 ≤ 1070000; omega)⟩ rfl (fun v9 w9 kc_58 ks_59 hu => ?_)
        obtain ⟨b2_60, n2_61, f2_62, c2_63, rfl, rfl, u_64, u_65, u_66, u_67⟩ := hu
        refine v_is (wn := [(rs, aI g 27 fs), (it, aI g m fi), (td, ob 5 [.ref r, .int (iI w), .int (iI p1), .int (iI p2_), .int (iI p3), .int (iI p4)]), (r, ob 2 [.ref rs, .ref it, .int (iI c)]), (h0, ob 6 [.ref r, .int (iI w), .ref o, .ref td]), (o, ob 0 [.ref b2_60, .int (iI c2_63), .int (iI pl), .int (iI tu)]), (b2_60, aB g n2_61 f2_62)]) (cn := cl + kc_3 + kc_14 + kc_25 + kc_36 + kc_47 + kc_58) (sn := sl + ks_4 + ks_15 + ks_26 + ks_37 + ks_48 + ks_59) (sn2 := []) rfl rfl rfl rfl ?_
        refine v_iinc fx 0 (6) [(3, .int (iI 6)), (0, .ref h0), (1, .int (iI mx)), (2, .int (iI fl))] dX6_writeMarked_107 rfl (by omega) (by decide) rfl rfl ?_
        refine v_goto fx 95 dX6_writeMarked_110 (by decide) ?_
        refine v_iload_n fx 0 dX6_writeMarked_95 rfl rfl ?_
        refine v_bipush fx dX6_writeMarked_96 (by decide +kernel) rfl ?_
        refine v_icmp_ge fx 113 dX6_writeMarked_98 (by decide) rfl (by omega) (by omega) (fun h_68 => ?_) (fun h0 => absurd h0 (by omega))
        exact v_vretE fx [(h0, ob 6 [.ref r, .int (iI w), .ref o, .ref td]), (o, ob 0 [.ref b2_60, .int (iI c2_63), .int (iI pl), .int (iI tu)]), (b2_60, aB g n2_61 f2_62), (r, ob 2 [.ref rs, .ref it, .int (iI c)]), (rs, aI g 27 fs), (it, aI g m fi), (td, ob 5 [.ref r, .int (iI w), .int (iI p1), .int (iI p2_), .int (iI p3), .int (iI p4)])] [4, 5, 6, 3, 0, 1, 2] hr dX6_writeMarked_113 rfl rfl ⟨b2_60, n2_61, f2_62, c2_63, p1, p2_, p3, p4, rfl, rfl, (by first | omega | rfl | assumption), (by first | omega | rfl | assumption), (by assumption), (by first | omega | rfl | assumption)⟩
      ·
        refine v_iload_n fx 1 dX6_writeMarked_13 rfl rfl ?_
        refine v_if_eq fx 23 dX6_writeMarked_14 (by decide) rfl (by omega) (fun h_69 => ?_) (fun h_69 => ?_)
        ·
          refine v_iconst fx dX6_writeMarked_23 rfl ?_
          refine v_goto fx 28 dX6_writeMarked_24 (by decide) ?_
          refine v_istore fx [(4, .int (iI 1)), (0, .ref h0), (1, .int (iI mx)), (2, .int (iI fl)), (3, .int (iI i))] dX6_writeMarked_28 (by decide) rfl rfl ?_
          refine v_aload_n fx 1 dX6_writeMarked_30 rfl rfl ?_
          refine v_iload_n fx 2 dX6_writeMarked_31 rfl rfl ?_
          refine v_iload fx 0 dX6_writeMarked_32 rfl rfl ?_
          refine v_callVE (As := [.int (iI mx), .int (iI 1)]) (rest := []) fx [0, 1, 2] [3, 4, 5, 6] [(h0, ob 6 [.ref r, .int (iI w), .ref o, .ref td]), (o, ob 0 [.ref b1, .int (iI c1), .int (iI pl), .int (iI tu)]), (b1, aB g n1 f1)] [(rs, aI g 27 fs), (it, aI g m fi), (td, ob 5 [.ref r, .int (iI w), .int (iI p1), .int (iI p2_), .int (iI p3), .int (iI p4)]), (r, ob 2 [.ref rs, .ref it, .int (iI c)])] 2 0 (c_X6_writeMark l g h0 r o td w b1 n1 f1 c1 pl tu mx 1 (by first | omega | decide | assumption) (by exact hi2_0) (by first | omega | decide | assumption) (by first | omega | decide | assumption) (by first | omega | decide | assumption)) dX6_writeMarked_34 k751 k753 k11 k51 k754 ykX6_writeMark rfl rfl rfl rfl rfl rfl rfl rfl (nl rfl) ⟨nl rfl, nl rfl⟩ ⟨(by show cl + 3 ≤ 13000; omega), (by show sl + 530000 ≤ 1070000; omega)⟩ rfl (fun v9 w9 kc_70 ks_71 hu => ?_)
          obtain ⟨b2_72, n2_73, f2_74, c2_75, rfl, rfl, u_76, u_77, u_78, u_79⟩ := hu
          refine v_is (wn := [(rs, aI g 27 fs), (it, aI g m fi), (td, ob 5 [.ref r, .int (iI w), .int (iI p1), .int (iI p2_), .int (iI p3), .int (iI p4)]), (r, ob 2 [.ref rs, .ref it, .int (iI c)]), (h0, ob 6 [.ref r, .int (iI w), .ref o, .ref td]), (o, ob 0 [.ref b2_72, .int (iI c2_75), .int (iI pl), .int (iI tu)]), (b2_72, aB g n2_73 f2_74)]) (cn := cl + kc_70) (sn := sl + ks_71) (sn2 := []) rfl rfl rfl rfl ?_
          refine v_aload_n fx 1 dX6_writeMarked_37 rfl rfl ?_
          refine v_get fx 4 2 inX6 k168 dX6_writeMarked_38 rfl rfl (by decide) rfl rfl rfl ?_
          refine v_callV (As := []) (rest := []) fx [5] [0, 1, 2, 3, 4, 6] [(o, ob 0 [.ref b2_72, .int (iI c2_75), .int (iI pl), .int (iI tu)])] [(rs, aI g 27 fs), (it, aI g m fi), (td, ob 5 [.ref r, .int (iI w), .int (iI p1), .int (iI p2_), .int (iI p3), .int (iI p4)]), (r, ob 2 [.ref rs, .ref it, .int (iI c)]), (h0, ob 6 [.ref r, .int (iI w), .ref o, .ref td]), (b2_72, aB g n2_73 f2_74)] 0 0 (c_X0_count l g o b2_72 c2_75 pl tu ) dX6_writeMarked_41 k755 k756 k757 k50 k758 ykX0_count rfl rfl rfl rfl rfl rfl rfl rfl (nl rfl) ⟨nl rfl, nl rfl⟩ ⟨(by show (cl + kc_70) + 0 ≤ 13000; omega), (by show (sl + ks_71) + 0 ≤ 1070000; omega)⟩ rfl (fun v9 w9 hu => ?_)
          obtain ⟨rfl, rfl⟩ := hu
          refine v_is (wn := [(rs, aI g 27 fs), (it, aI g m fi), (td, ob 5 [.ref r, .int (iI w), .int (iI p1), .int (iI p2_), .int (iI p3), .int (iI p4)]), (r, ob 2 [.ref rs, .ref it, .int (iI c)]), (h0, ob 6 [.ref r, .int (iI w), .ref o, .ref td]), (b2_72, aB g n2_73 f2_74), (o, ob 0 [.ref b2_72, .int (iI c2_75), .int (iI pl), .int (iI tu)])]) (cn := cl + kc_70) (sn := sl + ks_71) (sn2 := [.int (iI c2_75)]) rfl rfl rfl rfl ?_
          refine v_istore fx [(5, .int (iI c2_75)), (4, .int (iI 1)), (0, .ref h0), (1, .int (iI mx)), (2, .int (iI fl)), (3, .int (iI i))] dX6_writeMarked_44 (by decide) rfl rfl ?_
          refine v_iload fx 1 dX6_writeMarked_46 rfl rfl ?_
          refine v_if_eq fx 59 dX6_writeMarked_48 (by decide) rfl (by omega) (fun h0 => absurd h0 (by omega)) (fun h_80 => ?_)
          refine v_aload_n fx 2 dX6_writeMarked_51 rfl rfl ?_
          refine v_iload_n fx 5 dX6_writeMarked_52 rfl rfl ?_
          refine v_callVE (As := [.int (iI i)]) (rest := []) fx [4, 6, 5, 3, 0, 1] [2] [(h0, ob 6 [.ref r, .int (iI w), .ref o, .ref td]), (o, ob 0 [.ref b2_72, .int (iI c2_75), .int (iI pl), .int (iI tu)]), (b2_72, aB g n2_73 f2_74), (r, ob 2 [.ref rs, .ref it, .int (iI c)]), (rs, aI g 27 fs), (it, aI g m fi)] [(td, ob 5 [.ref r, .int (iI w), .int (iI p1), .int (iI p2_), .int (iI p3), .int (iI p4)])] 1 0 (c_X6_writeRuns l g h0 r o td w b2_72 n2_73 f2_74 c2_75 pl tu rs it m c F fs fi i (by first | omega | decide | assumption) (by assumption) (by first | omega | decide | assumption) (by first | omega | decide | assumption) (by first | omega | decide | assumption) (by first | omega | decide | assumption) (by first | omega | decide | assumption)) dX6_writeMarked_53 k759 k761 k12 k51 k762 ykX6_writeRuns rfl rfl rfl rfl rfl rfl rfl rfl (nl rfl) ⟨nl rfl, nl rfl⟩ ⟨(by show (cl + kc_70) + 8200 ≤ 13000; omega), (by show (sl + ks_71) + 800000 ≤ 1070000; omega)⟩ rfl (fun v9 w9 kc_81 ks_82 hu => ?_)
          obtain ⟨b2_83, n2_84, f2_85, c2_86, rfl, rfl, u_87, u_88, u_89, u_90⟩ := hu
          refine v_is (wn := [(td, ob 5 [.ref r, .int (iI w), .int (iI p1), .int (iI p2_), .int (iI p3), .int (iI p4)]), (h0, ob 6 [.ref r, .int (iI w), .ref o, .ref td]), (o, ob 0 [.ref b2_83, .int (iI c2_86), .int (iI pl), .int (iI tu)]), (b2_83, aB g n2_84 f2_85), (r, ob 2 [.ref rs, .ref it, .int (iI c)]), (rs, aI g 27 fs), (it, aI g m fi)]) (cn := cl + kc_70 + kc_81) (sn := sl + ks_71 + ks_82) (sn2 := []) rfl rfl rfl rfl ?_
          refine v_goto fx 64 dX6_writeMarked_56 (by decide) ?_
          refine v_aload_n fx 2 dX6_writeMarked_64 rfl rfl ?_
          refine v_get fx 1 2 inX6 k168 dX6_writeMarked_65 rfl rfl (by decide) rfl rfl rfl ?_
          refine v_iconst fx dX6_writeMarked_68 rfl ?_
          refine v_iload_n fx 4 dX6_writeMarked_69 rfl rfl ?_
          refine v_aload_n fx 2 dX6_writeMarked_70 rfl rfl ?_
          refine v_get fx 1 2 inX6 k168 dX6_writeMarked_71 rfl rfl (by decide) rfl rfl rfl ?_
          refine v_callV (As := []) (rest := [.int (iI fl), .int (iI 0), .ref o]) fx [2] [0, 1, 3, 4, 5, 6] [(o, ob 0 [.ref b2_83, .int (iI c2_86), .int (iI pl), .int (iI tu)])] [(td, ob 5 [.ref r, .int (iI w), .int (iI p1), .int (iI p2_), .int (iI p3), .int (iI p4)]), (h0, ob 6 [.ref r, .int (iI w), .ref o, .ref td]), (b2_83, aB g n2_84 f2_85), (r, ob 2 [.ref rs, .ref it, .int (iI c)]), (rs, aI g 27 fs), (it, aI g m fi)] 0 0 (c_X0_count l g o b2_83 c2_86 pl tu ) dX6_writeMarked_74 k755 k756 k757 k50 k758 ykX0_count rfl rfl rfl rfl rfl rfl rfl rfl (nl rfl) ⟨nl rfl, nl rfl⟩ ⟨(by show (cl + kc_70 + kc_81) + 0 ≤ 13000; omega), (by show (sl + ks_71 + ks_82) + 0 ≤ 1070000; omega)⟩ rfl (fun v9 w9 hu => ?_)
          obtain ⟨rfl, rfl⟩ := hu
          refine v_is (wn := [(td, ob 5 [.ref r, .int (iI w), .int (iI p1), .int (iI p2_), .int (iI p3), .int (iI p4)]), (h0, ob 6 [.ref r, .int (iI w), .ref o, .ref td]), (b2_83, aB g n2_84 f2_85), (r, ob 2 [.ref rs, .ref it, .int (iI c)]), (rs, aI g 27 fs), (it, aI g m fi), (o, ob 0 [.ref b2_83, .int (iI c2_86), .int (iI pl), .int (iI tu)])]) (cn := cl + kc_70 + kc_81) (sn := sl + ks_71 + ks_82) (sn2 := [.int (iI c2_86), .int (iI fl), .int (iI 0), .ref o]) rfl rfl rfl rfl ?_
          refine v_iload fx 0 dX6_writeMarked_77 rfl rfl ?_
          refine v_isub fx (c2_86 - c2_75) dX6_writeMarked_79 (by rfl) rfl ?_
          refine v_isub fx (fl - (c2_86 - c2_75)) dX6_writeMarked_80 (by rfl) rfl ?_
          obtain ⟨z_91, ez_91⟩ : ∃ z9 : Int, (if 0 < fl - (c2_86 - c2_75) then fl - (c2_86 - c2_75) else 0) = z9 := ⟨_, rfl⟩
          have hz_91 : (0 < fl - (c2_86 - c2_75) ∧ z_91 = fl - (c2_86 - c2_75)) ∨ (¬ 0 < fl - (c2_86 - c2_75) ∧ z_91 = 0) := by split at ez_91 <;> omega
          refine v_mmax fx (z_91) (by omega) (by omega) (ez_91) k764 k83 k47 k84 dX6_writeMarked_81 (nl rfl) (nl rfl) (nl rfl) (by show cl + kc_70 + kc_81 ≤ 13000; omega) (by show sl + ks_71 + ks_82 ≤ 1070000; omega) rfl ?_
          refine v_callVE (As := [.int (iI z_91)]) (rest := []) fx [6, 2] [0, 1, 3, 4, 5] [(o, ob 0 [.ref b2_83, .int (iI c2_86), .int (iI pl), .int (iI tu)]), (b2_83, aB g n2_84 f2_85)] [(td, ob 5 [.ref r, .int (iI w), .int (iI p1), .int (iI p2_), .int (iI p3), .int (iI p4)]), (h0, ob 6 [.ref r, .int (iI w), .ref o, .ref td]), (r, ob 2 [.ref rs, .ref it, .int (iI c)]), (rs, aI g 27 fs), (it, aI g m fi)] 1 0 (c_X0_addZeros l g o b2_83 n2_84 f2_85 c2_86 pl tu z_91 (by first | omega | decide | assumption) (by assumption) (by first | omega | decide | assumption) (by first | omega | decide | assumption)) dX6_writeMarked_84 k765 k766 k767 k50 k768 ykX0_addZeros rfl rfl rfl rfl rfl rfl rfl rfl (nl rfl) ⟨nl rfl, nl rfl⟩ ⟨(by show (cl + kc_70 + kc_81) + 1 ≤ 13000; omega), (by show (sl + ks_71 + ks_82) + 260000 ≤ 1070000; omega)⟩ rfl (fun v9 w9 kc_92 ks_93 hu => ?_)
          obtain ⟨b2_94, n2_95, f2_96, rfl, rfl, u_97, u_98, u_99⟩ := hu
          refine v_is (wn := [(td, ob 5 [.ref r, .int (iI w), .int (iI p1), .int (iI p2_), .int (iI p3), .int (iI p4)]), (h0, ob 6 [.ref r, .int (iI w), .ref o, .ref td]), (r, ob 2 [.ref rs, .ref it, .int (iI c)]), (rs, aI g 27 fs), (it, aI g m fi), (o, ob 0 [.ref b2_94, .int (iI (c2_86 + z_91)), .int (iI pl), .int (iI tu)]), (b2_94, aB g n2_95 f2_96)]) (cn := cl + kc_70 + kc_81 + kc_92) (sn := sl + ks_71 + ks_82 + ks_93) (sn2 := []) rfl rfl rfl rfl ?_
          refine v_iinc fx 5 (i + 1) [(3, .int (iI (i + 1))), (5, .int (iI c2_75)), (4, .int (iI 1)), (0, .ref h0), (1, .int (iI mx)), (2, .int (iI fl))] dX6_writeMarked_87 rfl (by omega) (by decide) rfl rfl ?_
          refine v_goto fx 2 dX6_writeMarked_90 (by decide) ?_
          refine v_ws [1, 5, 6, 2, 3, 4, 0] [(h0, ob 6 [.ref r, .int (iI w), .ref o, .ref td]), (o, ob 0 [.ref b2_94, .int (iI (c2_86 + z_91)), .int (iI pl), .int (iI tu)]), (b2_94, aB g n2_95 f2_96), (r, ob 2 [.ref rs, .ref it, .int (iI c)]), (rs, aI g 27 fs), (it, aI g m fi), (td, ob 5 [.ref r, .int (iI w), .int (iI p1), .int (iI p2_), .int (iI p3), .int (iI p4)])] rfl rfl ?_
          refine v_lv [3, 4, 5, 0] [(0, .ref h0), (1, .int (iI mx)), (2, .int (iI fl)), (3, .int (iI (i + 1)))] rfl ?_
          exact ihL2 (i + 1) p1 p2_ p3 p4 b2_94 n2_95 f2_96 (c2_86 + z_91) (cl + kc_70 + kc_81 + kc_92) (sl + ks_71 + ks_82 + ks_93) (by assumption) (by omega) (by omega) (by omega) (by omega)
        ·
          refine v_iload_n fx 3 dX6_writeMarked_17 rfl rfl ?_
          refine v_iconst fx dX6_writeMarked_18 rfl ?_
          refine v_irem fx (iI (i % 4)) dX6_writeMarked_19 (by decide) (iI_rem (by omega) 4 (by decide) (by decide)) rfl ?_
          refine v_if_ne fx 27 dX6_writeMarked_20 (by decide) rfl (by omega) (fun h_100 => ?_) (fun h_100 => ?_)
          ·
            refine v_iconst fx dX6_writeMarked_27 rfl ?_
            refine v_istore fx [(4, .int (iI 0)), (0, .ref h0), (1, .int (iI mx)), (2, .int (iI fl)), (3, .int (iI i))] dX6_writeMarked_28 (by decide) rfl rfl ?_
            refine v_aload_n fx 1 dX6_writeMarked_30 rfl rfl ?_
            refine v_iload_n fx 2 dX6_writeMarked_31 rfl rfl ?_
            refine v_iload fx 0 dX6_writeMarked_32 rfl rfl ?_
            refine v_callVE (As := [.int (iI mx), .int (iI 0)]) (rest := []) fx [0, 1, 2] [3, 4, 5, 6] [(h0, ob 6 [.ref r, .int (iI w), .ref o, .ref td]), (o, ob 0 [.ref b1, .int (iI c1), .int (iI pl), .int (iI tu)]), (b1, aB g n1 f1)] [(rs, aI g 27 fs), (it, aI g m fi), (td, ob 5 [.ref r, .int (iI w), .int (iI p1), .int (iI p2_), .int (iI p3), .int (iI p4)]), (r, ob 2 [.ref rs, .ref it, .int (iI c)])] 2 0 (c_X6_writeMark l g h0 r o td w b1 n1 f1 c1 pl tu mx 0 (by first | omega | decide | assumption) (by exact hi2_0) (by first | omega | decide | assumption) (by first | omega | decide | assumption) (by first | omega | decide | assumption)) dX6_writeMarked_34 k751 k753 k11 k51 k754 ykX6_writeMark rfl rfl rfl rfl rfl rfl rfl rfl (nl rfl) ⟨nl rfl, nl rfl⟩ ⟨(by show cl + 3 ≤ 13000; omega), (by show sl + 530000 ≤ 1070000; omega)⟩ rfl (fun v9 w9 kc_101 ks_102 hu => ?_)
            obtain ⟨b2_103, n2_104, f2_105, c2_106, rfl, rfl, u_107, u_108, u_109, u_110⟩ := hu
            refine v_is (wn := [(rs, aI g 27 fs), (it, aI g m fi), (td, ob 5 [.ref r, .int (iI w), .int (iI p1), .int (iI p2_), .int (iI p3), .int (iI p4)]), (r, ob 2 [.ref rs, .ref it, .int (iI c)]), (h0, ob 6 [.ref r, .int (iI w), .ref o, .ref td]), (o, ob 0 [.ref b2_103, .int (iI c2_106), .int (iI pl), .int (iI tu)]), (b2_103, aB g n2_104 f2_105)]) (cn := cl + kc_101) (sn := sl + ks_102) (sn2 := []) rfl rfl rfl rfl ?_
            refine v_aload_n fx 1 dX6_writeMarked_37 rfl rfl ?_
            refine v_get fx 4 2 inX6 k168 dX6_writeMarked_38 rfl rfl (by decide) rfl rfl rfl ?_
            refine v_callV (As := []) (rest := []) fx [5] [0, 1, 2, 3, 4, 6] [(o, ob 0 [.ref b2_103, .int (iI c2_106), .int (iI pl), .int (iI tu)])] [(rs, aI g 27 fs), (it, aI g m fi), (td, ob 5 [.ref r, .int (iI w), .int (iI p1), .int (iI p2_), .int (iI p3), .int (iI p4)]), (r, ob 2 [.ref rs, .ref it, .int (iI c)]), (h0, ob 6 [.ref r, .int (iI w), .ref o, .ref td]), (b2_103, aB g n2_104 f2_105)] 0 0 (c_X0_count l g o b2_103 c2_106 pl tu ) dX6_writeMarked_41 k755 k756 k757 k50 k758 ykX0_count rfl rfl rfl rfl rfl rfl rfl rfl (nl rfl) ⟨nl rfl, nl rfl⟩ ⟨(by show (cl + kc_101) + 0 ≤ 13000; omega), (by show (sl + ks_102) + 0 ≤ 1070000; omega)⟩ rfl (fun v9 w9 hu => ?_)
            obtain ⟨rfl, rfl⟩ := hu
            refine v_is (wn := [(rs, aI g 27 fs), (it, aI g m fi), (td, ob 5 [.ref r, .int (iI w), .int (iI p1), .int (iI p2_), .int (iI p3), .int (iI p4)]), (r, ob 2 [.ref rs, .ref it, .int (iI c)]), (h0, ob 6 [.ref r, .int (iI w), .ref o, .ref td]), (b2_103, aB g n2_104 f2_105), (o, ob 0 [.ref b2_103, .int (iI c2_106), .int (iI pl), .int (iI tu)])]) (cn := cl + kc_101) (sn := sl + ks_102) (sn2 := [.int (iI c2_106)]) rfl rfl rfl rfl ?_
            refine v_istore fx [(5, .int (iI c2_106)), (4, .int (iI 0)), (0, .ref h0), (1, .int (iI mx)), (2, .int (iI fl)), (3, .int (iI i))] dX6_writeMarked_44 (by decide) rfl rfl ?_
            refine v_iload fx 1 dX6_writeMarked_46 rfl rfl ?_
            refine v_if_eq fx 59 dX6_writeMarked_48 (by decide) rfl (by omega) (fun h_111 => ?_) (fun h0 => absurd h0 (by omega))
            refine v_aload_n fx 2 dX6_writeMarked_59 rfl rfl ?_
            refine v_iload_n fx 5 dX6_writeMarked_60 rfl rfl ?_
            refine v_callVE (As := [.int (iI i)]) (rest := []) fx [4, 6, 5, 3, 0, 1, 2] [] [(h0, ob 6 [.ref r, .int (iI w), .ref o, .ref td]), (o, ob 0 [.ref b2_103, .int (iI c2_106), .int (iI pl), .int (iI tu)]), (b2_103, aB g n2_104 f2_105), (r, ob 2 [.ref rs, .ref it, .int (iI c)]), (rs, aI g 27 fs), (it, aI g m fi), (td, ob 5 [.ref r, .int (iI w), .int (iI p1), .int (iI p2_), .int (iI p3), .int (iI p4)])] [] 1 0 (c_X6_writeModes l g h0 r o td w b2_103 n2_104 f2_105 c2_106 pl tu rs it m c F fs fi p1 p2_ p3 p4 i (by first | omega | decide | assumption) (by assumption) (by first | omega | decide | assumption) (by first | omega | decide | assumption) (by first | omega | decide | assumption) (by first | omega | decide | assumption) (by first | omega | decide | assumption)) dX6_writeMarked_61 k673 k675 k6 k51 k676 ykX6_writeModes rfl rfl rfl rfl rfl rfl rfl rfl (nl rfl) ⟨nl rfl, nl rfl⟩ ⟨(by show (cl + kc_101) + 8200 ≤ 13000; omega), (by show (sl + ks_102) + 800000 ≤ 1070000; omega)⟩ rfl (fun v9 w9 kc_112 ks_113 hu => ?_)
            obtain ⟨b2_114, n2_115, f2_116, c2_117, y1_118, y2_119, y3_120, y4_121, rfl, rfl, u_122, u_123, u_124, u_125⟩ := hu
            refine v_is (wn := [(h0, ob 6 [.ref r, .int (iI w), .ref o, .ref td]), (o, ob 0 [.ref b2_114, .int (iI c2_117), .int (iI pl), .int (iI tu)]), (b2_114, aB g n2_115 f2_116), (r, ob 2 [.ref rs, .ref it, .int (iI c)]), (rs, aI g 27 fs), (it, aI g m fi), (td, ob 5 [.ref r, .int (iI w), .int (iI y1_118), .int (iI y2_119), .int (iI y3_120), .int (iI y4_121)])]) (cn := cl + kc_101 + kc_112) (sn := sl + ks_102 + ks_113) (sn2 := []) rfl rfl rfl rfl ?_
            refine v_aload_n fx 2 dX6_writeMarked_64 rfl rfl ?_
            refine v_get fx 0 2 inX6 k168 dX6_writeMarked_65 rfl rfl (by decide) rfl rfl rfl ?_
            refine v_iconst fx dX6_writeMarked_68 rfl ?_
            refine v_iload_n fx 4 dX6_writeMarked_69 rfl rfl ?_
            refine v_aload_n fx 2 dX6_writeMarked_70 rfl rfl ?_
            refine v_get fx 0 2 inX6 k168 dX6_writeMarked_71 rfl rfl (by decide) rfl rfl rfl ?_
            refine v_callV (As := []) (rest := [.int (iI fl), .int (iI 0), .ref o]) fx [1] [0, 2, 3, 4, 5, 6] [(o, ob 0 [.ref b2_114, .int (iI c2_117), .int (iI pl), .int (iI tu)])] [(h0, ob 6 [.ref r, .int (iI w), .ref o, .ref td]), (b2_114, aB g n2_115 f2_116), (r, ob 2 [.ref rs, .ref it, .int (iI c)]), (rs, aI g 27 fs), (it, aI g m fi), (td, ob 5 [.ref r, .int (iI w), .int (iI y1_118), .int (iI y2_119), .int (iI y3_120), .int (iI y4_121)])] 0 0 (c_X0_count l g o b2_114 c2_117 pl tu ) dX6_writeMarked_74 k755 k756 k757 k50 k758 ykX0_count rfl rfl rfl rfl rfl rfl rfl rfl (nl rfl) ⟨nl rfl, nl rfl⟩ ⟨(by show (cl + kc_101 + kc_112) + 0 ≤ 13000; omega), (by show (sl + ks_102 + ks_113) + 0 ≤ 1070000; omega)⟩ rfl (fun v9 w9 hu => ?_)
            obtain ⟨rfl, rfl⟩ := hu
            refine v_is (wn := [(h0, ob 6 [.ref r, .int (iI w), .ref o, .ref td]), (b2_114, aB g n2_115 f2_116), (r, ob 2 [.ref rs, .ref it, .int (iI c)]), (rs, aI g 27 fs), (it, aI g m fi), (td, ob 5 [.ref r, .int (iI w), .int (iI y1_118), .int (iI y2_119), .int (iI y3_120), .int (iI y4_121)]), (o, ob 0 [.ref b2_114, .int (iI c2_117), .int (iI pl), .int (iI tu)])]) (cn := cl + kc_101 + kc_112) (sn := sl + ks_102 + ks_113) (sn2 := [.int (iI c2_117), .int (iI fl), .int (iI 0), .ref o]) rfl rfl rfl rfl ?_
            refine v_iload fx 0 dX6_writeMarked_77 rfl rfl ?_
            refine v_isub fx (c2_117 - c2_106) dX6_writeMarked_79 (by rfl) rfl ?_
            refine v_isub fx (fl - (c2_117 - c2_106)) dX6_writeMarked_80 (by rfl) rfl ?_
            obtain ⟨z_126, ez_126⟩ : ∃ z9 : Int, (if 0 < fl - (c2_117 - c2_106) then fl - (c2_117 - c2_106) else 0) = z9 := ⟨_, rfl⟩
            have hz_126 : (0 < fl - (c2_117 - c2_106) ∧ z_126 = fl - (c2_117 - c2_106)) ∨ (¬ 0 < fl - (c2_117 - c2_106) ∧ z_126 = 0) := by split at ez_126 <;> omega
            refine v_mmax fx (z_126) (by omega) (by omega) (ez_126) k764 k83 k47 k84 dX6_writeMarked_81 (nl rfl) (nl rfl) (nl rfl) (by show cl + kc_101 + kc_112 ≤ 13000; omega) (by show sl + ks_102 + ks_113 ≤ 1070000; omega) rfl ?_
            refine v_callVE (As := [.int (iI z_126)]) (rest := []) fx [6, 1] [0, 2, 3, 4, 5] [(o, ob 0 [.ref b2_114, .int (iI c2_117), .int (iI pl), .int (iI tu)]), (b2_114, aB g n2_115 f2_116)] [(h0, ob 6 [.ref r, .int (iI w), .ref o, .ref td]), (r, ob 2 [.ref rs, .ref it, .int (iI c)]), (rs, aI g 27 fs), (it, aI g m fi), (td, ob 5 [.ref r, .int (iI w), .int (iI y1_118), .int (iI y2_119), .int (iI y3_120), .int (iI y4_121)])] 1 0 (c_X0_addZeros l g o b2_114 n2_115 f2_116 c2_117 pl tu z_126 (by first | omega | decide | assumption) (by assumption) (by first | omega | decide | assumption) (by first | omega | decide | assumption)) dX6_writeMarked_84 k765 k766 k767 k50 k768 ykX0_addZeros rfl rfl rfl rfl rfl rfl rfl rfl (nl rfl) ⟨nl rfl, nl rfl⟩ ⟨(by show (cl + kc_101 + kc_112) + 1 ≤ 13000; omega), (by show (sl + ks_102 + ks_113) + 260000 ≤ 1070000; omega)⟩ rfl (fun v9 w9 kc_127 ks_128 hu => ?_)
            obtain ⟨b2_129, n2_130, f2_131, rfl, rfl, u_132, u_133, u_134⟩ := hu
            refine v_is (wn := [(h0, ob 6 [.ref r, .int (iI w), .ref o, .ref td]), (r, ob 2 [.ref rs, .ref it, .int (iI c)]), (rs, aI g 27 fs), (it, aI g m fi), (td, ob 5 [.ref r, .int (iI w), .int (iI y1_118), .int (iI y2_119), .int (iI y3_120), .int (iI y4_121)]), (o, ob 0 [.ref b2_129, .int (iI (c2_117 + z_126)), .int (iI pl), .int (iI tu)]), (b2_129, aB g n2_130 f2_131)]) (cn := cl + kc_101 + kc_112 + kc_127) (sn := sl + ks_102 + ks_113 + ks_128) (sn2 := []) rfl rfl rfl rfl ?_
            refine v_iinc fx 5 (i + 1) [(3, .int (iI (i + 1))), (5, .int (iI c2_106)), (4, .int (iI 0)), (0, .ref h0), (1, .int (iI mx)), (2, .int (iI fl))] dX6_writeMarked_87 rfl (by omega) (by decide) rfl rfl ?_
            refine v_goto fx 2 dX6_writeMarked_90 (by decide) ?_
            refine v_ws [0, 5, 6, 1, 2, 3, 4] [(h0, ob 6 [.ref r, .int (iI w), .ref o, .ref td]), (o, ob 0 [.ref b2_129, .int (iI (c2_117 + z_126)), .int (iI pl), .int (iI tu)]), (b2_129, aB g n2_130 f2_131), (r, ob 2 [.ref rs, .ref it, .int (iI c)]), (rs, aI g 27 fs), (it, aI g m fi), (td, ob 5 [.ref r, .int (iI w), .int (iI y1_118), .int (iI y2_119), .int (iI y3_120), .int (iI y4_121)])] rfl rfl ?_
            refine v_lv [3, 4, 5, 0] [(0, .ref h0), (1, .int (iI mx)), (2, .int (iI fl)), (3, .int (iI (i + 1)))] rfl ?_
            exact ihL2 (i + 1) y1_118 y2_119 y3_120 y4_121 b2_129 n2_130 f2_131 (c2_117 + z_126) (cl + kc_101 + kc_112 + kc_127) (sl + ks_102 + ks_113 + ks_128) (by assumption) (by omega) (by omega) (by omega) (by omega)
          ·
            refine v_iconst fx dX6_writeMarked_23 rfl ?_
            refine v_goto fx 28 dX6_writeMarked_24 (by decide) ?_
            refine v_istore fx [(4, .int (iI 1)), (0, .ref h0), (1, .int (iI mx)), (2, .int (iI fl)), (3, .int (iI i))] dX6_writeMarked_28 (by decide) rfl rfl ?_
            refine v_aload_n fx 1 dX6_writeMarked_30 rfl rfl ?_
            refine v_iload_n fx 2 dX6_writeMarked_31 rfl rfl ?_
            refine v_iload fx 0 dX6_writeMarked_32 rfl rfl ?_
            refine v_callVE (As := [.int (iI mx), .int (iI 1)]) (rest := []) fx [0, 1, 2] [3, 4, 5, 6] [(h0, ob 6 [.ref r, .int (iI w), .ref o, .ref td]), (o, ob 0 [.ref b1, .int (iI c1), .int (iI pl), .int (iI tu)]), (b1, aB g n1 f1)] [(rs, aI g 27 fs), (it, aI g m fi), (td, ob 5 [.ref r, .int (iI w), .int (iI p1), .int (iI p2_), .int (iI p3), .int (iI p4)]), (r, ob 2 [.ref rs, .ref it, .int (iI c)])] 2 0 (c_X6_writeMark l g h0 r o td w b1 n1 f1 c1 pl tu mx 1 (by first | omega | decide | assumption) (by exact hi2_0) (by first | omega | decide | assumption) (by first | omega | decide | assumption) (by first | omega | decide | assumption)) dX6_writeMarked_34 k751 k753 k11 k51 k754 ykX6_writeMark rfl rfl rfl rfl rfl rfl rfl rfl (nl rfl) ⟨nl rfl, nl rfl⟩ ⟨(by show cl + 3 ≤ 13000; omega), (by show sl + 530000 ≤ 1070000; omega)⟩ rfl (fun v9 w9 kc_135 ks_136 hu => ?_)
            obtain ⟨b2_137, n2_138, f2_139, c2_140, rfl, rfl, u_141, u_142, u_143, u_144⟩ := hu
            refine v_is (wn := [(rs, aI g 27 fs), (it, aI g m fi), (td, ob 5 [.ref r, .int (iI w), .int (iI p1), .int (iI p2_), .int (iI p3), .int (iI p4)]), (r, ob 2 [.ref rs, .ref it, .int (iI c)]), (h0, ob 6 [.ref r, .int (iI w), .ref o, .ref td]), (o, ob 0 [.ref b2_137, .int (iI c2_140), .int (iI pl), .int (iI tu)]), (b2_137, aB g n2_138 f2_139)]) (cn := cl + kc_135) (sn := sl + ks_136) (sn2 := []) rfl rfl rfl rfl ?_
            refine v_aload_n fx 1 dX6_writeMarked_37 rfl rfl ?_
            refine v_get fx 4 2 inX6 k168 dX6_writeMarked_38 rfl rfl (by decide) rfl rfl rfl ?_
            refine v_callV (As := []) (rest := []) fx [5] [0, 1, 2, 3, 4, 6] [(o, ob 0 [.ref b2_137, .int (iI c2_140), .int (iI pl), .int (iI tu)])] [(rs, aI g 27 fs), (it, aI g m fi), (td, ob 5 [.ref r, .int (iI w), .int (iI p1), .int (iI p2_), .int (iI p3), .int (iI p4)]), (r, ob 2 [.ref rs, .ref it, .int (iI c)]), (h0, ob 6 [.ref r, .int (iI w), .ref o, .ref td]), (b2_137, aB g n2_138 f2_139)] 0 0 (c_X0_count l g o b2_137 c2_140 pl tu ) dX6_writeMarked_41 k755 k756 k757 k50 k758 ykX0_count rfl rfl rfl rfl rfl rfl rfl rfl (nl rfl) ⟨nl rfl, nl rfl⟩ ⟨(by show (cl + kc_135) + 0 ≤ 13000; omega), (by show (sl + ks_136) + 0 ≤ 1070000; omega)⟩ rfl (fun v9 w9 hu => ?_)
            obtain ⟨rfl, rfl⟩ := hu
            refine v_is (wn := [(rs, aI g 27 fs), (it, aI g m fi), (td, ob 5 [.ref r, .int (iI w), .int (iI p1), .int (iI p2_), .int (iI p3), .int (iI p4)]), (r, ob 2 [.ref rs, .ref it, .int (iI c)]), (h0, ob 6 [.ref r, .int (iI w), .ref o, .ref td]), (b2_137, aB g n2_138 f2_139), (o, ob 0 [.ref b2_137, .int (iI c2_140), .int (iI pl), .int (iI tu)])]) (cn := cl + kc_135) (sn := sl + ks_136) (sn2 := [.int (iI c2_140)]) rfl rfl rfl rfl ?_
            refine v_istore fx [(5, .int (iI c2_140)), (4, .int (iI 1)), (0, .ref h0), (1, .int (iI mx)), (2, .int (iI fl)), (3, .int (iI i))] dX6_writeMarked_44 (by decide) rfl rfl ?_
            refine v_iload fx 1 dX6_writeMarked_46 rfl rfl ?_
            refine v_if_eq fx 59 dX6_writeMarked_48 (by decide) rfl (by omega) (fun h0 => absurd h0 (by omega)) (fun h_145 => ?_)
            refine v_aload_n fx 2 dX6_writeMarked_51 rfl rfl ?_
            refine v_iload_n fx 5 dX6_writeMarked_52 rfl rfl ?_
            refine v_callVE (As := [.int (iI i)]) (rest := []) fx [4, 6, 5, 3, 0, 1] [2] [(h0, ob 6 [.ref r, .int (iI w), .ref o, .ref td]), (o, ob 0 [.ref b2_137, .int (iI c2_140), .int (iI pl), .int (iI tu)]), (b2_137, aB g n2_138 f2_139), (r, ob 2 [.ref rs, .ref it, .int (iI c)]), (rs, aI g 27 fs), (it, aI g m fi)] [(td, ob 5 [.ref r, .int (iI w), .int (iI p1), .int (iI p2_), .int (iI p3), .int (iI p4)])] 1 0 (c_X6_writeRuns l g h0 r o td w b2_137 n2_138 f2_139 c2_140 pl tu rs it m c F fs fi i (by first | omega | decide | assumption) (by assumption) (by first | omega | decide | assumption) (by first | omega | decide | assumption) (by first | omega | decide | assumption) (by first | omega | decide | assumption) (by first | omega | decide | assumption)) dX6_writeMarked_53 k759 k761 k12 k51 k762 ykX6_writeRuns rfl rfl rfl rfl rfl rfl rfl rfl (nl rfl) ⟨nl rfl, nl rfl⟩ ⟨(by show (cl + kc_135) + 8200 ≤ 13000; omega), (by show (sl + ks_136) + 800000 ≤ 1070000; omega)⟩ rfl (fun v9 w9 kc_146 ks_147 hu => ?_)
            obtain ⟨b2_148, n2_149, f2_150, c2_151, rfl, rfl, u_152, u_153, u_154, u_155⟩ := hu
            refine v_is (wn := [(td, ob 5 [.ref r, .int (iI w), .int (iI p1), .int (iI p2_), .int (iI p3), .int (iI p4)]), (h0, ob 6 [.ref r, .int (iI w), .ref o, .ref td]), (o, ob 0 [.ref b2_148, .int (iI c2_151), .int (iI pl), .int (iI tu)]), (b2_148, aB g n2_149 f2_150), (r, ob 2 [.ref rs, .ref it, .int (iI c)]), (rs, aI g 27 fs), (it, aI g m fi)]) (cn := cl + kc_135 + kc_146) (sn := sl + ks_136 + ks_147) (sn2 := []) rfl rfl rfl rfl ?_
            refine v_goto fx 64 dX6_writeMarked_56 (by decide) ?_
            refine v_aload_n fx 2 dX6_writeMarked_64 rfl rfl ?_
            refine v_get fx 1 2 inX6 k168 dX6_writeMarked_65 rfl rfl (by decide) rfl rfl rfl ?_
            refine v_iconst fx dX6_writeMarked_68 rfl ?_
            refine v_iload_n fx 4 dX6_writeMarked_69 rfl rfl ?_
            refine v_aload_n fx 2 dX6_writeMarked_70 rfl rfl ?_
            refine v_get fx 1 2 inX6 k168 dX6_writeMarked_71 rfl rfl (by decide) rfl rfl rfl ?_
            refine v_callV (As := []) (rest := [.int (iI fl), .int (iI 0), .ref o]) fx [2] [0, 1, 3, 4, 5, 6] [(o, ob 0 [.ref b2_148, .int (iI c2_151), .int (iI pl), .int (iI tu)])] [(td, ob 5 [.ref r, .int (iI w), .int (iI p1), .int (iI p2_), .int (iI p3), .int (iI p4)]), (h0, ob 6 [.ref r, .int (iI w), .ref o, .ref td]), (b2_148, aB g n2_149 f2_150), (r, ob 2 [.ref rs, .ref it, .int (iI c)]), (rs, aI g 27 fs), (it, aI g m fi)] 0 0 (c_X0_count l g o b2_148 c2_151 pl tu ) dX6_writeMarked_74 k755 k756 k757 k50 k758 ykX0_count rfl rfl rfl rfl rfl rfl rfl rfl (nl rfl) ⟨nl rfl, nl rfl⟩ ⟨(by show (cl + kc_135 + kc_146) + 0 ≤ 13000; omega), (by show (sl + ks_136 + ks_147) + 0 ≤ 1070000; omega)⟩ rfl (fun v9 w9 hu => ?_)
            obtain ⟨rfl, rfl⟩ := hu
            refine v_is (wn := [(td, ob 5 [.ref r, .int (iI w), .int (iI p1), .int (iI p2_), .int (iI p3), .int (iI p4)]), (h0, ob 6 [.ref r, .int (iI w), .ref o, .ref td]), (b2_148, aB g n2_149 f2_150), (r, ob 2 [.ref rs, .ref it, .int (iI c)]), (rs, aI g 27 fs), (it, aI g m fi), (o, ob 0 [.ref b2_148, .int (iI c2_151), .int (iI pl), .int (iI tu)])]) (cn := cl + kc_135 + kc_146) (sn := sl + ks_136 + ks_147) (sn2 := [.int (iI c2_151), .int (iI fl), .int (iI 0), .ref o]) rfl rfl rfl rfl ?_
            refine v_iload fx 0 dX6_writeMarked_77 rfl rfl ?_
            refine v_isub fx (c2_151 - c2_140) dX6_writeMarked_79 (by rfl) rfl ?_
            refine v_isub fx (fl - (c2_151 - c2_140)) dX6_writeMarked_80 (by rfl) rfl ?_
            obtain ⟨z_156, ez_156⟩ : ∃ z9 : Int, (if 0 < fl - (c2_151 - c2_140) then fl - (c2_151 - c2_140) else 0) = z9 := ⟨_, rfl⟩
            have hz_156 : (0 < fl - (c2_151 - c2_140) ∧ z_156 = fl - (c2_151 - c2_140)) ∨ (¬ 0 < fl - (c2_151 - c2_140) ∧ z_156 = 0) := by split at ez_156 <;> omega
            refine v_mmax fx (z_156) (by omega) (by omega) (ez_156) k764 k83 k47 k84 dX6_writeMarked_81 (nl rfl) (nl rfl) (nl rfl) (by show cl + kc_135 + kc_146 ≤ 13000; omega) (by show sl + ks_136 + ks_147 ≤ 1070000; omega) rfl ?_
            refine v_callVE (As := [.int (iI z_156)]) (rest := []) fx [6, 2] [0, 1, 3, 4, 5] [(o, ob 0 [.ref b2_148, .int (iI c2_151), .int (iI pl), .int (iI tu)]), (b2_148, aB g n2_149 f2_150)] [(td, ob 5 [.ref r, .int (iI w), .int (iI p1), .int (iI p2_), .int (iI p3), .int (iI p4)]), (h0, ob 6 [.ref r, .int (iI w), .ref o, .ref td]), (r, ob 2 [.ref rs, .ref it, .int (iI c)]), (rs, aI g 27 fs), (it, aI g m fi)] 1 0 (c_X0_addZeros l g o b2_148 n2_149 f2_150 c2_151 pl tu z_156 (by first | omega | decide | assumption) (by assumption) (by first | omega | decide | assumption) (by first | omega | decide | assumption)) dX6_writeMarked_84 k765 k766 k767 k50 k768 ykX0_addZeros rfl rfl rfl rfl rfl rfl rfl rfl (nl rfl) ⟨nl rfl, nl rfl⟩ ⟨(by show (cl + kc_135 + kc_146) + 1 ≤ 13000; omega), (by show (sl + ks_136 + ks_147) + 260000 ≤ 1070000; omega)⟩ rfl (fun v9 w9 kc_157 ks_158 hu => ?_)
            obtain ⟨b2_159, n2_160, f2_161, rfl, rfl, u_162, u_163, u_164⟩ := hu
            refine v_is (wn := [(td, ob 5 [.ref r, .int (iI w), .int (iI p1), .int (iI p2_), .int (iI p3), .int (iI p4)]), (h0, ob 6 [.ref r, .int (iI w), .ref o, .ref td]), (r, ob 2 [.ref rs, .ref it, .int (iI c)]), (rs, aI g 27 fs), (it, aI g m fi), (o, ob 0 [.ref b2_159, .int (iI (c2_151 + z_156)), .int (iI pl), .int (iI tu)]), (b2_159, aB g n2_160 f2_161)]) (cn := cl + kc_135 + kc_146 + kc_157) (sn := sl + ks_136 + ks_147 + ks_158) (sn2 := []) rfl rfl rfl rfl ?_
            refine v_iinc fx 5 (i + 1) [(3, .int (iI (i + 1))), (5, .int (iI c2_140)), (4, .int (iI 1)), (0, .ref h0), (1, .int (iI mx)), (2, .int (iI fl))] dX6_writeMarked_87 rfl (by omega) (by decide) rfl rfl ?_
            refine v_goto fx 2 dX6_writeMarked_90 (by decide) ?_
            refine v_ws [1, 5, 6, 2, 3, 4, 0] [(h0, ob 6 [.ref r, .int (iI w), .ref o, .ref td]), (o, ob 0 [.ref b2_159, .int (iI (c2_151 + z_156)), .int (iI pl), .int (iI tu)]), (b2_159, aB g n2_160 f2_161), (r, ob 2 [.ref rs, .ref it, .int (iI c)]), (rs, aI g 27 fs), (it, aI g m fi), (td, ob 5 [.ref r, .int (iI w), .int (iI p1), .int (iI p2_), .int (iI p3), .int (iI p4)])] rfl rfl ?_
            refine v_lv [3, 4, 5, 0] [(0, .ref h0), (1, .int (iI mx)), (2, .int (iI fl)), (3, .int (iI (i + 1)))] rfl ?_
            exact ihL2 (i + 1) p1 p2_ p3 p4 b2_159 n2_160 f2_161 (c2_151 + z_156) (cl + kc_135 + kc_146 + kc_157) (sl + ks_136 + ks_147 + ks_158) (by assumption) (by omega) (by omega) (by omega) (by omega)
  refine v_lv [1, 2, 3, 0] [(0, .ref h0), (1, .int (iI mx)), (2, .int (iI fl)), (3, .int (iI 0))] rfl ?_
  exact L2 _ 0 t1 t2 t3 t4 ba n f cb 0 0 (by exact hp1) (by omega) (by omega) (by omega) (Nat.lt_succ_self _)
theorem dX7_encode_0 : decode cX7_encode 0 = .ok (.aload_n 0, 1) := by decide +kernel
theorem dX7_encode_1 : decode cX7_encode 1 = .ok (.getfield 44, 3) := by decide +kernel
theorem dX7_encode_4 : decode cX7_encode 4 = .ok (.invokevirtual 87, 3) := by decide +kernel
theorem dX7_encode_7 : decode cX7_encode 7 = .ok (.aload_n 0, 1) := by decide +kernel
theorem dX7_encode_8 : decode cX7_encode 8 = .ok (.getfield 18, 3) := by decide +kernel
theorem dX7_encode_11 : decode cX7_encode 11 = .ok (.iconst 2, 1) := by decide +kernel
theorem dX7_encode_12 : decode cX7_encode 12 = .ok (.if_icmp .ne 13, 3) := by decide +kernel
theorem dX7_encode_15 : decode cX7_encode 15 = .ok (.aload_n 0, 1) := by decide +kernel
theorem dX7_encode_16 : decode cX7_encode 16 = .ok (.getfield 56, 3) := by decide +kernel
theorem dX7_encode_19 : decode cX7_encode 19 = .ok (.invokevirtual 90, 3) := by decide +kernel
theorem dX7_encode_22 : decode cX7_encode 22 = .ok (.goto 27, 3) := by decide +kernel
theorem dX7_encode_25 : decode cX7_encode 25 = .ok (.aload_n 0, 1) := by decide +kernel
theorem dX7_encode_26 : decode cX7_encode 26 = .ok (.getfield 56, 3) := by decide +kernel
theorem dX7_encode_29 : decode cX7_encode 29 = .ok (.aload_n 0, 1) := by decide +kernel
theorem dX7_encode_30 : decode cX7_encode 30 = .ok (.getfield 18, 3) := by decide +kernel
theorem dX7_encode_33 : decode cX7_encode 33 = .ok (.iconst 1, 1) := by decide +kernel
theorem dX7_encode_34 : decode cX7_encode 34 = .ok (.if_icmp .ne 7, 3) := by decide +kernel
theorem dX7_encode_37 : decode cX7_encode 37 = .ok (.iconst 1, 1) := by decide +kernel
theorem dX7_encode_38 : decode cX7_encode 38 = .ok (.goto 4, 3) := by decide +kernel
theorem dX7_encode_41 : decode cX7_encode 41 = .ok (.iconst 0, 1) := by decide +kernel
theorem dX7_encode_42 : decode cX7_encode 42 = .ok (.aload_n 0, 1) := by decide +kernel
theorem dX7_encode_43 : decode cX7_encode 43 = .ok (.getfield 93, 3) := by decide +kernel
theorem dX7_encode_46 : decode cX7_encode 46 = .ok (.invokevirtual 96, 3) := by decide +kernel
theorem dX7_encode_49 : decode cX7_encode 49 = .ok (.aload_n 0, 1) := by decide +kernel
theorem dX7_encode_50 : decode cX7_encode 50 = .ok (.getfield 44, 3) := by decide +kernel
theorem dX7_encode_53 : decode cX7_encode 53 = .ok (.invokevirtual 100, 3) := by decide +kernel
theorem dX7_encode_56 : decode cX7_encode 56 = .ok (.aload_n 0, 1) := by decide +kernel
theorem dX7_encode_57 : decode cX7_encode 57 = .ok (.getfield 44, 3) := by decide +kernel
theorem dX7_encode_60 : decode cX7_encode 60 = .ok (.invokevirtual 103, 3) := by decide +kernel
theorem dX7_encode_63 : decode cX7_encode 63 = .ok (.ireturn, 1) := by decide +kernel
abbrev po_c_X7_encode (g : GG) (h0 : Nat) (kd : Int) (w : Int) (sm : Nat) (r : Nat) (wr : Nat) (fd : Nat) (wt : Nat) (rd : Nat) (fl : Int) (rp : Int) (lo : Int) (td : Nat) (ba : Nat) (n : Nat) (f : Nat → Int32) (cb : Int) (pl : Int) (tu : Int) (rs : Nat) (it : Nat) (m : Nat) (c : Int) (F : Nat → Int) (fs : Nat → Int32) (fi : Nat → Int32) (t1 : Int) (t2 : Int) (t3 : Int) (t4 : Int) : Option Value → va_W → Nat → Nat → Prop := fun v8 w8 kc8 ks8 => ∃ b2 : Nat, ∃ n2 : Nat, ∃ f2 : Nat → Int32, ∃ c2 : Int, ∃ y1 : Int, ∃ y2 : Int, ∃ y3 : Int, ∃ y4 : Int, ∃ q : Int, v8 = some (.int (iI q)) ∧ w8 = [(h0, ob 7 [.int (iI kd), .int (iI w), .ref sm, .ref r, .ref wr, .ref fd, .ref wt, .ref rd, .int (iI fl), .int (iI rp), .int (iI lo)]), (wt, ob 6 [.ref r, .int (iI w), .ref wr, .ref td]), (wr, ob 0 [.ref b2, .int (iI c2), .int (iI 0), .int (iI tu)]), (b2, aB g n2 f2), (r, ob 2 [.ref rs, .ref it, .int (iI c)]), (rs, aI g 27 fs), (it, aI g m fi), (td, ob 5 [.ref r, .int (iI w), .int (iI y1), .int (iI y2), .int (iI y3), .int (iI y4)])] ∧ (ks8 + 2 * n ≤ 2 * n2 ∧ 64 * kc8 ≤ ks8 ∧ n ≤ n2 ∧ n2 ≤ 130000) ∧ (0 ≤ c2 ∧ c2 ≤ 8 * (n2 : Int) ∧ c2 ≤ 507007) ∧ (bF f2) ∧ (8 * q = c2)
set_option maxHeartbeats 4000000 in
set_option maxRecDepth 100000 in
theorem c_X7_encode (l : Launch) (g : GG) (h0 : Nat) (kd : Int) (w : Int) (sm : Nat) (r : Nat) (wr : Nat) (fd : Nat) (wt : Nat) (rd : Nat) (fl : Int) (rp : Int) (lo : Int) (td : Nat) (ba : Nat) (n : Nat) (f : Nat → Int32) (cb : Int) (pl : Int) (tu : Int) (rs : Nat) (it : Nat) (m : Nat) (c : Int) (F : Nat → Int) (fs : Nat → Int32) (fi : Nat → Int32) (t1 : Int) (t2 : Int) (t3 : Int) (t4 : Int) (hp0 : 0 ≤ cb ∧ cb ≤ 8 * (n : Int) ∧ 64 ≤ n ∧ n ≤ 130000) (hp1 : bF f) (hp2 : LB c F fs m) (hp3 : RI w c F fi) (hp4 : c ≤ 24) (hp5 : 1 ≤ w ∧ w ≤ 3000) (hp6 : 0 ≤ kd ∧ kd ≤ 2) (hp7 : 0 ≤ fl ∧ fl ≤ 4000) : CtE l g yX7_encode (wM yX7_encode cX7_encode 1 (some .int)) (rmD 7 13000 1070000) [.ref h0] [(h0, ob 7 [.int (iI kd), .int (iI w), .ref sm, .ref r, .ref wr, .ref fd, .ref wt, .ref rd, .int (iI fl), .int (iI rp), .int (iI lo)]), (wt, ob 6 [.ref r, .int (iI w), .ref wr, .ref td]), (wr, ob 0 [.ref ba, .int (iI cb), .int (iI pl), .int (iI tu)]), (ba, aB g n f), (r, ob 2 [.ref rs, .ref it, .int (iI c)]), (rs, aI g 27 fs), (it, aI g m fi), (td, ob 5 [.ref r, .int (iI w), .int (iI t1), .int (iI t2), .int (iI t3), .int (iI t4)])] (po_c_X7_encode g h0 kd w sm r wr fd wt rd fl rp lo td ba n f cb pl tu rs it m c F fs fi t1 t2 t3 t4) := by
  refine CtE_of (by decide +kernel) (Nat.le_of_ble_eq_true rfl) ?_
  intro p9 e9 s9 m9 ag9 bl9 mt9 c9 A9 fx hr hnm
  refine v_aload_n fx 0 dX7_encode_0 rfl rfl ?_
  refine v_get fx 0 4 inX7 k280 dX7_encode_1 rfl rfl (by decide) rfl rfl rfl ?_
  refine v_callV (As := []) (rest := []) fx [2, 3] [0, 1, 4, 5, 6, 7] [(wr, ob 0 [.ref ba, .int (iI cb), .int (iI pl), .int (iI tu)]), (ba, aB g n f)] [(h0, ob 7 [.int (iI kd), .int (iI w), .ref sm, .ref r, .ref wr, .ref fd, .ref wt, .ref rd, .int (iI fl), .int (iI rp), .int (iI lo)]), (wt, ob 6 [.ref r, .int (iI w), .ref wr, .ref td]), (r, ob 2 [.ref rs, .ref it, .int (iI c)]), (rs, aI g 27 fs), (it, aI g m fi), (td, ob 5 [.ref r, .int (iI w), .int (iI t1), .int (iI t2), .int (iI t3), .int (iI t4)])] 0 0 (c_X0_removeAll l g wr ba n f cb pl tu (by first | omega | decide | assumption) (by exact hp1)) dX7_encode_4 k358 k359 k360 k50 k361 ykX0_removeAll rfl rfl rfl rfl rfl rfl rfl rfl (nl rfl) ⟨nl rfl, nl rfl⟩ ⟨(nl rfl), (nl rfl)⟩ rfl (fun v9 w9 hu => ?_)
  obtain ⟨f2_1, rfl, rfl, u_2⟩ := hu
  refine v_is (wn := [(h0, ob 7 [.int (iI kd), .int (iI w), .ref sm, .ref r, .ref wr, .ref fd, .ref wt, .ref rd, .int (iI fl), .int (iI rp), .int (iI lo)]), (wt, ob 6 [.ref r, .int (iI w), .ref wr, .ref td]), (r, ob 2 [.ref rs, .ref it, .int (iI c)]), (rs, aI g 27 fs), (it, aI g m fi), (td, ob 5 [.ref r, .int (iI w), .int (iI t1), .int (iI t2), .int (iI t3), .int (iI t4)]), (wr, ob 0 [.ref ba, .int (iI 0), .int (iI 0), .int (iI tu)]), (ba, aB g n f2_1)]) (cn := 0) (sn := 0) (sn2 := []) rfl rfl rfl rfl ?_
  refine v_aload_n fx 0 dX7_encode_7 rfl rfl ?_
  refine v_get fx 0 0 inX7 k276 dX7_encode_8 rfl rfl (by decide) rfl rfl rfl ?_
  refine v_iconst fx dX7_encode_11 rfl ?_
  refine v_icmp_ne fx 25 dX7_encode_12 (by decide) rfl (by omega) (by omega) (fun h_3 => ?_) (fun h_3 => ?_)
  ·
    refine v_aload_n fx 0 dX7_encode_25 rfl rfl ?_
    refine v_get fx 0 6 inX7 k282 dX7_encode_26 rfl rfl (by decide) rfl rfl rfl ?_
    refine v_aload_n fx 0 dX7_encode_29 rfl rfl ?_
    refine v_get fx 0 0 inX7 k276 dX7_encode_30 rfl rfl (by decide) rfl rfl rfl ?_
    refine v_iconst fx dX7_encode_33 rfl ?_
    refine v_icmp_ne fx 41 dX7_encode_34 (by decide) rfl (by omega) (by omega) (fun h_4 => ?_) (fun h_4 => ?_)
    ·
      refine v_iconst fx dX7_encode_41 rfl ?_
      refine v_aload_n fx 0 dX7_encode_42 rfl rfl ?_
      refine v_get fx 0 8 inX7 k284 dX7_encode_43 rfl rfl (by decide) rfl rfl rfl ?_
      refine v_callVE (As := [.int (iI 0), .int (iI fl)]) (rest := []) fx [1, 6, 7, 2, 3, 4, 5] [0] [(wt, ob 6 [.ref r, .int (iI w), .ref wr, .ref td]), (wr, ob 0 [.ref ba, .int (iI 0), .int (iI 0), .int (iI tu)]), (ba, aB g n f2_1), (r, ob 2 [.ref rs, .ref it, .int (iI c)]), (rs, aI g 27 fs), (it, aI g m fi), (td, ob 5 [.ref r, .int (iI w), .int (iI t1), .int (iI t2), .int (iI t3), .int (iI t4)])] [(h0, ob 7 [.int (iI kd), .int (iI w), .ref sm, .ref r, .ref wr, .ref fd, .ref wt, .ref rd, .int (iI fl), .int (iI rp), .int (iI lo)])] 2 0 (c_X6_writeMarked l g wt r wr td w ba n f2_1 0 0 tu rs it m c F fs fi t1 t2 t3 t4 0 fl (by first | omega | decide | assumption) (by assumption) (by first | omega | decide | assumption) (by first | omega | decide | assumption) (by first | omega | decide | assumption) (by first | omega | decide | assumption) (by first | omega | decide | assumption) (by first | omega | decide | assumption) (by first | omega | decide | assumption)) dX7_encode_46 k747 k748 k749 k51 k750 ykX6_writeMarked rfl rfl rfl rfl rfl rfl rfl rfl (nl rfl) ⟨nl rfl, nl rfl⟩ ⟨(nl rfl), (nl rfl)⟩ rfl (fun v9 w9 kc_5 ks_6 hu => ?_)
      obtain ⟨b2_7, n2_8, f2_9, c2_10, y1_11, y2_12, y3_13, y4_14, rfl, rfl, u_15, u_16, u_17, u_18⟩ := hu
      refine v_is (wn := [(h0, ob 7 [.int (iI kd), .int (iI w), .ref sm, .ref r, .ref wr, .ref fd, .ref wt, .ref rd, .int (iI fl), .int (iI rp), .int (iI lo)]), (wt, ob 6 [.ref r, .int (iI w), .ref wr, .ref td]), (wr, ob 0 [.ref b2_7, .int (iI c2_10), .int (iI 0), .int (iI tu)]), (b2_7, aB g n2_8 f2_9), (r, ob 2 [.ref rs, .ref it, .int (iI c)]), (rs, aI g 27 fs), (it, aI g m fi), (td, ob 5 [.ref r, .int (iI w), .int (iI y1_11), .int (iI y2_12), .int (iI y3_13), .int (iI y4_14)])]) (cn := kc_5) (sn := ks_6) (sn2 := []) rfl (Nat.zero_add _) (Nat.zero_add _) rfl ?_
      refine v_aload_n fx 0 dX7_encode_49 rfl rfl ?_
      refine v_get fx 0 4 inX7 k280 dX7_encode_50 rfl rfl (by decide) rfl rfl rfl ?_
      refine v_callV (As := []) (rest := []) fx [2] [0, 1, 3, 4, 5, 6, 7] [(wr, ob 0 [.ref b2_7, .int (iI c2_10), .int (iI 0), .int (iI tu)])] [(h0, ob 7 [.int (iI kd), .int (iI w), .ref sm, .ref r, .ref wr, .ref fd, .ref wt, .ref rd, .int (iI fl), .int (iI rp), .int (iI lo)]), (wt, ob 6 [.ref r, .int (iI w), .ref wr, .ref td]), (b2_7, aB g n2_8 f2_9), (r, ob 2 [.ref rs, .ref it, .int (iI c)]), (rs, aI g 27 fs), (it, aI g m fi), (td, ob 5 [.ref r, .int (iI w), .int (iI y1_11), .int (iI y2_12), .int (iI y3_13), .int (iI y4_14)])] 0 0 (c_X0_fillLastByte l g wr b2_7 c2_10 0 tu (by first | omega | decide | assumption)) dX7_encode_53 k769 k770 k771 k50 k772 ykX0_fillLastByte rfl rfl rfl rfl rfl rfl rfl rfl (nl rfl) ⟨nl rfl, nl rfl⟩ ⟨(by show kc_5 + 0 ≤ 13000; omega), (by show ks_6 + 0 ≤ 1070000; omega)⟩ rfl (fun v9 w9 hu => ?_)
      obtain ⟨rfl, rfl⟩ := hu
      refine v_is (wn := [(h0, ob 7 [.int (iI kd), .int (iI w), .ref sm, .ref r, .ref wr, .ref fd, .ref wt, .ref rd, .int (iI fl), .int (iI rp), .int (iI lo)]), (wt, ob 6 [.ref r, .int (iI w), .ref wr, .ref td]), (b2_7, aB g n2_8 f2_9), (r, ob 2 [.ref rs, .ref it, .int (iI c)]), (rs, aI g 27 fs), (it, aI g m fi), (td, ob 5 [.ref r, .int (iI w), .int (iI y1_11), .int (iI y2_12), .int (iI y3_13), .int (iI y4_14)]), (wr, ob 0 [.ref b2_7, .int (iI (8 * ((c2_10 + 7) / 8))), .int (iI 0), .int (iI tu)])]) (cn := kc_5) (sn := ks_6) (sn2 := []) rfl rfl rfl rfl ?_
      refine v_aload_n fx 0 dX7_encode_56 rfl rfl ?_
      refine v_get fx 0 4 inX7 k280 dX7_encode_57 rfl rfl (by decide) rfl rfl rfl ?_
      refine v_callV (As := []) (rest := []) fx [7] [0, 1, 2, 3, 4, 5, 6] [(wr, ob 0 [.ref b2_7, .int (iI (8 * ((c2_10 + 7) / 8))), .int (iI 0), .int (iI tu)])] [(h0, ob 7 [.int (iI kd), .int (iI w), .ref sm, .ref r, .ref wr, .ref fd, .ref wt, .ref rd, .int (iI fl), .int (iI rp), .int (iI lo)]), (wt, ob 6 [.ref r, .int (iI w), .ref wr, .ref td]), (b2_7, aB g n2_8 f2_9), (r, ob 2 [.ref rs, .ref it, .int (iI c)]), (rs, aI g 27 fs), (it, aI g m fi), (td, ob 5 [.ref r, .int (iI w), .int (iI y1_11), .int (iI y2_12), .int (iI y3_13), .int (iI y4_14)])] 0 0 (c_X0_byteCount l g wr b2_7 (8 * ((c2_10 + 7) / 8)) 0 tu (by first | omega | decide | assumption)) dX7_encode_60 k773 k363 k364 k50 k365 ykX0_byteCount rfl rfl rfl rfl rfl rfl rfl rfl (nl rfl) ⟨nl rfl, nl rfl⟩ ⟨(by show kc_5 + 0 ≤ 13000; omega), (by show ks_6 + 0 ≤ 1070000; omega)⟩ rfl (fun v9 w9 hu => ?_)
      obtain ⟨rfl, rfl⟩ := hu
      refine v_is (wn := [(h0, ob 7 [.int (iI kd), .int (iI w), .ref sm, .ref r, .ref wr, .ref fd, .ref wt, .ref rd, .int (iI fl), .int (iI rp), .int (iI lo)]), (wt, ob 6 [.ref r, .int (iI w), .ref wr, .ref td]), (b2_7, aB g n2_8 f2_9), (r, ob 2 [.ref rs, .ref it, .int (iI c)]), (rs, aI g 27 fs), (it, aI g m fi), (td, ob 5 [.ref r, .int (iI w), .int (iI y1_11), .int (iI y2_12), .int (iI y3_13), .int (iI y4_14)]), (wr, ob 0 [.ref b2_7, .int (iI (8 * ((c2_10 + 7) / 8))), .int (iI 0), .int (iI tu)])]) (cn := kc_5) (sn := ks_6) (sn2 := [.int (iI (((8 * ((c2_10 + 7) / 8)) + 7) / 8))]) rfl rfl rfl rfl ?_
      exact v_iretE fx [(h0, ob 7 [.int (iI kd), .int (iI w), .ref sm, .ref r, .ref wr, .ref fd, .ref wt, .ref rd, .int (iI fl), .int (iI rp), .int (iI lo)]), (wt, ob 6 [.ref r, .int (iI w), .ref wr, .ref td]), (wr, ob 0 [.ref b2_7, .int (iI (8 * ((c2_10 + 7) / 8))), .int (iI 0), .int (iI tu)]), (b2_7, aB g n2_8 f2_9), (r, ob 2 [.ref rs, .ref it, .int (iI c)]), (rs, aI g 27 fs), (it, aI g m fi), (td, ob 5 [.ref r, .int (iI w), .int (iI y1_11), .int (iI y2_12), .int (iI y3_13), .int (iI y4_14)])] [0, 1, 7, 2, 3, 4, 5, 6] hr dX7_encode_63 rfl rfl ⟨b2_7, n2_8, f2_9, (8 * ((c2_10 + 7) / 8)), y1_11, y2_12, y3_13, y4_14, (((8 * ((c2_10 + 7) / 8)) + 7) / 8), rfl, rfl, (by first | omega | rfl | assumption), (by first | omega | rfl | assumption), (by assumption), (by first | omega | rfl | assumption)⟩
    ·
      refine v_iconst fx dX7_encode_37 rfl ?_
      refine v_goto fx 42 dX7_encode_38 (by decide) ?_
      refine v_aload_n fx 0 dX7_encode_42 rfl rfl ?_
      refine v_get fx 0 8 inX7 k284 dX7_encode_43 rfl rfl (by decide) rfl rfl rfl ?_
      refine v_callVE (As := [.int (iI 1), .int (iI fl)]) (rest := []) fx [1, 6, 7, 2, 3, 4, 5] [0] [(wt, ob 6 [.ref r, .int (iI w), .ref wr, .ref td]), (wr, ob 0 [.ref ba, .int (iI 0), .int (iI 0), .int (iI tu)]), (ba, aB g n f2_1), (r, ob 2 [.ref rs, .ref it, .int (iI c)]), (rs, aI g 27 fs), (it, aI g m fi), (td, ob 5 [.ref r, .int (iI w), .int (iI t1), .int (iI t2), .int (iI t3), .int (iI t4)])] [(h0, ob 7 [.int (iI kd), .int (iI w), .ref sm, .ref r, .ref wr, .ref fd, .ref wt, .ref rd, .int (iI fl), .int (iI rp), .int (iI lo)])] 2 0 (c_X6_writeMarked l g wt r wr td w ba n f2_1 0 0 tu rs it m c F fs fi t1 t2 t3 t4 1 fl (by first | omega | decide | assumption) (by assumption) (by first | omega | decide | assumption) (by first | omega | decide | assumption) (by first | omega | decide | assumption) (by first | omega | decide | assumption) (by first | omega | decide | assumption) (by first | omega | decide | assumption) (by first | omega | decide | assumption)) dX7_encode_46 k747 k748 k749 k51 k750 ykX6_writeMarked rfl rfl rfl rfl rfl rfl rfl rfl (nl rfl) ⟨nl rfl, nl rfl⟩ ⟨(nl rfl), (nl rfl)⟩ rfl (fun v9 w9 kc_19 ks_20 hu => ?_)
      obtain ⟨b2_21, n2_22, f2_23, c2_24, y1_25, y2_26, y3_27, y4_28, rfl, rfl, u_29, u_30, u_31, u_32⟩ := hu
      refine v_is (wn := [(h0, ob 7 [.int (iI kd), .int (iI w), .ref sm, .ref r, .ref wr, .ref fd, .ref wt, .ref rd, .int (iI fl), .int (iI rp), .int (iI lo)]), (wt, ob 6 [.ref r, .int (iI w), .ref wr, .ref td]), (wr, ob 0 [.ref b2_21, .int (iI c2_24), .int (iI 0), .int (iI tu)]), (b2_21, aB g n2_22 f2_23), (r, ob 2 [.ref rs, .ref it, .int (iI c)]), (rs, aI g 27 fs), (it, aI g m fi), (td, ob 5 [.ref r, .int (iI w), .int (iI y1_25), .int (iI y2_26), .int (iI y3_27), .int (iI y4_28)])]) (cn := kc_19) (sn := ks_20) (sn2 := []) rfl (Nat.zero_add _) (Nat.zero_add _) rfl ?_
      refine v_aload_n fx 0 dX7_encode_49 rfl rfl ?_
      refine v_get fx 0 4 inX7 k280 dX7_encode_50 rfl rfl (by decide) rfl rfl rfl ?_
      refine v_callV (As := []) (rest := []) fx [2] [0, 1, 3, 4, 5, 6, 7] [(wr, ob 0 [.ref b2_21, .int (iI c2_24), .int (iI 0), .int (iI tu)])] [(h0, ob 7 [.int (iI kd), .int (iI w), .ref sm, .ref r, .ref wr, .ref fd, .ref wt, .ref rd, .int (iI fl), .int (iI rp), .int (iI lo)]), (wt, ob 6 [.ref r, .int (iI w), .ref wr, .ref td]), (b2_21, aB g n2_22 f2_23), (r, ob 2 [.ref rs, .ref it, .int (iI c)]), (rs, aI g 27 fs), (it, aI g m fi), (td, ob 5 [.ref r, .int (iI w), .int (iI y1_25), .int (iI y2_26), .int (iI y3_27), .int (iI y4_28)])] 0 0 (c_X0_fillLastByte l g wr b2_21 c2_24 0 tu (by first | omega | decide | assumption)) dX7_encode_53 k769 k770 k771 k50 k772 ykX0_fillLastByte rfl rfl rfl rfl rfl rfl rfl rfl (nl rfl) ⟨nl rfl, nl rfl⟩ ⟨(by show kc_19 + 0 ≤ 13000; omega), (by show ks_20 + 0 ≤ 1070000; omega)⟩ rfl (fun v9 w9 hu => ?_)
      obtain ⟨rfl, rfl⟩ := hu
      refine v_is (wn := [(h0, ob 7 [.int (iI kd), .int (iI w), .ref sm, .ref r, .ref wr, .ref fd, .ref wt, .ref rd, .int (iI fl), .int (iI rp), .int (iI lo)]), (wt, ob 6 [.ref r, .int (iI w), .ref wr, .ref td]), (b2_21, aB g n2_22 f2_23), (r, ob 2 [.ref rs, .ref it, .int (iI c)]), (rs, aI g 27 fs), (it, aI g m fi), (td, ob 5 [.ref r, .int (iI w), .int (iI y1_25), .int (iI y2_26), .int (iI y3_27), .int (iI y4_28)]), (wr, ob 0 [.ref b2_21, .int (iI (8 * ((c2_24 + 7) / 8))), .int (iI 0), .int (iI tu)])]) (cn := kc_19) (sn := ks_20) (sn2 := []) rfl rfl rfl rfl ?_
      refine v_aload_n fx 0 dX7_encode_56 rfl rfl ?_
      refine v_get fx 0 4 inX7 k280 dX7_encode_57 rfl rfl (by decide) rfl rfl rfl ?_
      refine v_callV (As := []) (rest := []) fx [7] [0, 1, 2, 3, 4, 5, 6] [(wr, ob 0 [.ref b2_21, .int (iI (8 * ((c2_24 + 7) / 8))), .int (iI 0), .int (iI tu)])] [(h0, ob 7 [.int (iI kd), .int (iI w), .ref sm, .ref r, .ref wr, .ref fd, .ref wt, .ref rd, .int (iI fl), .int (iI rp), .int (iI lo)]), (wt, ob 6 [.ref r, .int (iI w), .ref wr, .ref td]), (b2_21, aB g n2_22 f2_23), (r, ob 2 [.ref rs, .ref it, .int (iI c)]), (rs, aI g 27 fs), (it, aI g m fi), (td, ob 5 [.ref r, .int (iI w), .int (iI y1_25), .int (iI y2_26), .int (iI y3_27), .int (iI y4_28)])] 0 0 (c_X0_byteCount l g wr b2_21 (8 * ((c2_24 + 7) / 8)) 0 tu (by first | omega | decide | assumption)) dX7_encode_60 k773 k363 k364 k50 k365 ykX0_byteCount rfl rfl rfl rfl rfl rfl rfl rfl (nl rfl) ⟨nl rfl, nl rfl⟩ ⟨(by show kc_19 + 0 ≤ 13000; omega), (by show ks_20 + 0 ≤ 1070000; omega)⟩ rfl (fun v9 w9 hu => ?_)
      obtain ⟨rfl, rfl⟩ := hu
      refine v_is (wn := [(h0, ob 7 [.int (iI kd), .int (iI w), .ref sm, .ref r, .ref wr, .ref fd, .ref wt, .ref rd, .int (iI fl), .int (iI rp), .int (iI lo)]), (wt, ob 6 [.ref r, .int (iI w), .ref wr, .ref td]), (b2_21, aB g n2_22 f2_23), (r, ob 2 [.ref rs, .ref it, .int (iI c)]), (rs, aI g 27 fs), (it, aI g m fi), (td, ob 5 [.ref r, .int (iI w), .int (iI y1_25), .int (iI y2_26), .int (iI y3_27), .int (iI y4_28)]), (wr, ob 0 [.ref b2_21, .int (iI (8 * ((c2_24 + 7) / 8))), .int (iI 0), .int (iI tu)])]) (cn := kc_19) (sn := ks_20) (sn2 := [.int (iI (((8 * ((c2_24 + 7) / 8)) + 7) / 8))]) rfl rfl rfl rfl ?_
      exact v_iretE fx [(h0, ob 7 [.int (iI kd), .int (iI w), .ref sm, .ref r, .ref wr, .ref fd, .ref wt, .ref rd, .int (iI fl), .int (iI rp), .int (iI lo)]), (wt, ob 6 [.ref r, .int (iI w), .ref wr, .ref td]), (wr, ob 0 [.ref b2_21, .int (iI (8 * ((c2_24 + 7) / 8))), .int (iI 0), .int (iI tu)]), (b2_21, aB g n2_22 f2_23), (r, ob 2 [.ref rs, .ref it, .int (iI c)]), (rs, aI g 27 fs), (it, aI g m fi), (td, ob 5 [.ref r, .int (iI w), .int (iI y1_25), .int (iI y2_26), .int (iI y3_27), .int (iI y4_28)])] [0, 1, 7, 2, 3, 4, 5, 6] hr dX7_encode_63 rfl rfl ⟨b2_21, n2_22, f2_23, (8 * ((c2_24 + 7) / 8)), y1_25, y2_26, y3_27, y4_28, (((8 * ((c2_24 + 7) / 8)) + 7) / 8), rfl, rfl, (by first | omega | rfl | assumption), (by first | omega | rfl | assumption), (by assumption), (by first | omega | rfl | assumption)⟩
  ·
    refine v_aload_n fx 0 dX7_encode_15 rfl rfl ?_
    refine v_get fx 0 6 inX7 k282 dX7_encode_16 rfl rfl (by decide) rfl rfl rfl ?_
    refine v_callVE (As := []) (rest := []) fx [1, 6, 7, 2, 3, 4, 5] [0] [(wt, ob 6 [.ref r, .int (iI w), .ref wr, .ref td]), (wr, ob 0 [.ref ba, .int (iI 0), .int (iI 0), .int (iI tu)]), (ba, aB g n f2_1), (r, ob 2 [.ref rs, .ref it, .int (iI c)]), (rs, aI g 27 fs), (it, aI g m fi), (td, ob 5 [.ref r, .int (iI w), .int (iI t1), .int (iI t2), .int (iI t3), .int (iI t4)])] [(h0, ob 7 [.int (iI kd), .int (iI w), .ref sm, .ref r, .ref wr, .ref fd, .ref wt, .ref rd, .int (iI fl), .int (iI rp), .int (iI lo)])] 0 0 (c_X6_writeUnmarked l g wt r wr td w ba n f2_1 0 0 tu rs it m c F fs fi t1 t2 t3 t4 (by first | omega | decide | assumption) (by assumption) (by first | omega | decide | assumption) (by first | omega | decide | assumption) (by first | omega | decide | assumption) (by first | omega | decide | assumption) (by first | omega | decide | assumption)) dX7_encode_19 k668 k669 k670 k51 k671 ykX6_writeUnmarked rfl rfl rfl rfl rfl rfl rfl rfl (nl rfl) ⟨nl rfl, nl rfl⟩ ⟨(nl rfl), (nl rfl)⟩ rfl (fun v9 w9 kc_33 ks_34 hu => ?_)
    obtain ⟨b2_35, n2_36, f2_37, c2_38, y1_39, y2_40, y3_41, y4_42, rfl, rfl, u_43, u_44, u_45, u_46⟩ := hu
    refine v_is (wn := [(h0, ob 7 [.int (iI kd), .int (iI w), .ref sm, .ref r, .ref wr, .ref fd, .ref wt, .ref rd, .int (iI fl), .int (iI rp), .int (iI lo)]), (wt, ob 6 [.ref r, .int (iI w), .ref wr, .ref td]), (wr, ob 0 [.ref b2_35, .int (iI c2_38), .int (iI 0), .int (iI tu)]), (b2_35, aB g n2_36 f2_37), (r, ob 2 [.ref rs, .ref it, .int (iI c)]), (rs, aI g 27 fs), (it, aI g m fi), (td, ob 5 [.ref r, .int (iI w), .int (iI y1_39), .int (iI y2_40), .int (iI y3_41), .int (iI y4_42)])]) (cn := kc_33) (sn := ks_34) (sn2 := []) rfl (Nat.zero_add _) (Nat.zero_add _) rfl ?_
    refine v_goto fx 49 dX7_encode_22 (by decide) ?_
    refine v_aload_n fx 0 dX7_encode_49 rfl rfl ?_
    refine v_get fx 0 4 inX7 k280 dX7_encode_50 rfl rfl (by decide) rfl rfl rfl ?_
    refine v_callV (As := []) (rest := []) fx [2] [0, 1, 3, 4, 5, 6, 7] [(wr, ob 0 [.ref b2_35, .int (iI c2_38), .int (iI 0), .int (iI tu)])] [(h0, ob 7 [.int (iI kd), .int (iI w), .ref sm, .ref r, .ref wr, .ref fd, .ref wt, .ref rd, .int (iI fl), .int (iI rp), .int (iI lo)]), (wt, ob 6 [.ref r, .int (iI w), .ref wr, .ref td]), (b2_35, aB g n2_36 f2_37), (r, ob 2 [.ref rs, .ref it, .int (iI c)]), (rs, aI g 27 fs), (it, aI g m fi), (td, ob 5 [.ref r, .int (iI w), .int (iI y1_39), .int (iI y2_40), .int (iI y3_41), .int (iI y4_42)])] 0 0 (c_X0_fillLastByte l g wr b2_35 c2_38 0 tu (by first | omega | decide | assumption)) dX7_encode_53 k769 k770 k771 k50 k772 ykX0_fillLastByte rfl rfl rfl rfl rfl rfl rfl rfl (nl rfl) ⟨nl rfl, nl rfl⟩ ⟨(by show kc_33 + 0 ≤ 13000; omega), (by show ks_34 + 0 ≤ 1070000; omega)⟩ rfl (fun v9 w9 hu => ?_)
    obtain ⟨rfl, rfl⟩ := hu
    refine v_is (wn := [(h0, ob 7 [.int (iI kd), .int (iI w), .ref sm, .ref r, .ref wr, .ref fd, .ref wt, .ref rd, .int (iI fl), .int (iI rp), .int (iI lo)]), (wt, ob 6 [.ref r, .int (iI w), .ref wr, .ref td]), (b2_35, aB g n2_36 f2_37), (r, ob 2 [.ref rs, .ref it, .int (iI c)]), (rs, aI g 27 fs), (it, aI g m fi), (td, ob 5 [.ref r, .int (iI w), .int (iI y1_39), .int (iI y2_40), .int (iI y3_41), .int (iI y4_42)]), (wr, ob 0 [.ref b2_35, .int (iI (8 * ((c2_38 + 7) / 8))), .int (iI 0), .int (iI tu)])]) (cn := kc_33) (sn := ks_34) (sn2 := []) rfl rfl rfl rfl ?_
    refine v_aload_n fx 0 dX7_encode_56 rfl rfl ?_
    refine v_get fx 0 4 inX7 k280 dX7_encode_57 rfl rfl (by decide) rfl rfl rfl ?_
    refine v_callV (As := []) (rest := []) fx [7] [0, 1, 2, 3, 4, 5, 6] [(wr, ob 0 [.ref b2_35, .int (iI (8 * ((c2_38 + 7) / 8))), .int (iI 0), .int (iI tu)])] [(h0, ob 7 [.int (iI kd), .int (iI w), .ref sm, .ref r, .ref wr, .ref fd, .ref wt, .ref rd, .int (iI fl), .int (iI rp), .int (iI lo)]), (wt, ob 6 [.ref r, .int (iI w), .ref wr, .ref td]), (b2_35, aB g n2_36 f2_37), (r, ob 2 [.ref rs, .ref it, .int (iI c)]), (rs, aI g 27 fs), (it, aI g m fi), (td, ob 5 [.ref r, .int (iI w), .int (iI y1_39), .int (iI y2_40), .int (iI y3_41), .int (iI y4_42)])] 0 0 (c_X0_byteCount l g wr b2_35 (8 * ((c2_38 + 7) / 8)) 0 tu (by first | omega | decide | assumption)) dX7_encode_60 k773 k363 k364 k50 k365 ykX0_byteCount rfl rfl rfl rfl rfl rfl rfl rfl (nl rfl) ⟨nl rfl, nl rfl⟩ ⟨(by show kc_33 + 0 ≤ 13000; omega), (by show ks_34 + 0 ≤ 1070000; omega)⟩ rfl (fun v9 w9 hu => ?_)
    obtain ⟨rfl, rfl⟩ := hu
    refine v_is (wn := [(h0, ob 7 [.int (iI kd), .int (iI w), .ref sm, .ref r, .ref wr, .ref fd, .ref wt, .ref rd, .int (iI fl), .int (iI rp), .int (iI lo)]), (wt, ob 6 [.ref r, .int (iI w), .ref wr, .ref td]), (b2_35, aB g n2_36 f2_37), (r, ob 2 [.ref rs, .ref it, .int (iI c)]), (rs, aI g 27 fs), (it, aI g m fi), (td, ob 5 [.ref r, .int (iI w), .int (iI y1_39), .int (iI y2_40), .int (iI y3_41), .int (iI y4_42)]), (wr, ob 0 [.ref b2_35, .int (iI (8 * ((c2_38 + 7) / 8))), .int (iI 0), .int (iI tu)])]) (cn := kc_33) (sn := ks_34) (sn2 := [.int (iI (((8 * ((c2_38 + 7) / 8)) + 7) / 8))]) rfl rfl rfl rfl ?_
    exact v_iretE fx [(h0, ob 7 [.int (iI kd), .int (iI w), .ref sm, .ref r, .ref wr, .ref fd, .ref wt, .ref rd, .int (iI fl), .int (iI rp), .int (iI lo)]), (wt, ob 6 [.ref r, .int (iI w), .ref wr, .ref td]), (wr, ob 0 [.ref b2_35, .int (iI (8 * ((c2_38 + 7) / 8))), .int (iI 0), .int (iI tu)]), (b2_35, aB g n2_36 f2_37), (r, ob 2 [.ref rs, .ref it, .int (iI c)]), (rs, aI g 27 fs), (it, aI g m fi), (td, ob 5 [.ref r, .int (iI w), .int (iI y1_39), .int (iI y2_40), .int (iI y3_41), .int (iI y4_42)])] [0, 1, 7, 2, 3, 4, 5, 6] hr dX7_encode_63 rfl rfl ⟨b2_35, n2_36, f2_37, (8 * ((c2_38 + 7) / 8)), y1_39, y2_40, y3_41, y4_42, (((8 * ((c2_38 + 7) / 8)) + 7) / 8), rfl, rfl, (by first | omega | rfl | assumption), (by first | omega | rfl | assumption), (by assumption), (by first | omega | rfl | assumption)⟩
theorem dX7_byteAt_0 : decode cX7_byteAt 0 = .ok (.aload_n 0, 1) := by decide +kernel
theorem dX7_byteAt_1 : decode cX7_byteAt 1 = .ok (.getfield 44, 3) := by decide +kernel
theorem dX7_byteAt_4 : decode cX7_byteAt 4 = .ok (.iload_n 1, 1) := by decide +kernel
theorem dX7_byteAt_5 : decode cX7_byteAt 5 = .ok (.invokevirtual 106, 3) := by decide +kernel
theorem dX7_byteAt_8 : decode cX7_byteAt 8 = .ok (.ireturn, 1) := by decide +kernel
abbrev po_c_X7_byteAt (g : GG) (h0 : Nat) (kd : Int) (w : Int) (sm : Nat) (r : Nat) (wr : Nat) (fd : Nat) (wt : Nat) (rd : Nat) (fl : Int) (rp : Int) (lo : Int) (ba : Nat) (n : Nat) (f : Nat → Int32) (cb : Int) (pl : Int) (tu : Int) (x : Int) : Option Value → va_W → Prop := fun v8 w8 => ∃ q : Int32, v8 = some (.int q) ∧ w8 = [(h0, ob 7 [.int (iI kd), .int (iI w), .ref sm, .ref r, .ref wr, .ref fd, .ref wt, .ref rd, .int (iI fl), .int (iI rp), .int (iI lo)]), (wr, ob 0 [.ref ba, .int (iI cb), .int (iI pl), .int (iI tu)]), (ba, aB g n f)]
set_option maxHeartbeats 4000000 in
set_option maxRecDepth 100000 in
theorem c_X7_byteAt (l : Launch) (g : GG) (h0 : Nat) (kd : Int) (w : Int) (sm : Nat) (r : Nat) (wr : Nat) (fd : Nat) (wt : Nat) (rd : Nat) (fl : Int) (rp : Int) (lo : Int) (ba : Nat) (n : Nat) (f : Nat → Int32) (cb : Int) (pl : Int) (tu : Int) (x : Int) (hp0 : 0 ≤ cb ∧ cb ≤ 8 * (n : Int) ∧ 64 ≤ n ∧ n ≤ 130000) (hp1 : bF f) (hp2 : -2147483648 ≤ x ∧ x < 2147483648) : Ct l g yX7_byteAt (wM yX7_byteAt cX7_byteAt 2 (some .int)) (rmD 2 0 0) [.ref h0, .int (iI x)] [(h0, ob 7 [.int (iI kd), .int (iI w), .ref sm, .ref r, .ref wr, .ref fd, .ref wt, .ref rd, .int (iI fl), .int (iI rp), .int (iI lo)]), (wr, ob 0 [.ref ba, .int (iI cb), .int (iI pl), .int (iI tu)]), (ba, aB g n f)] (po_c_X7_byteAt g h0 kd w sm r wr fd wt rd fl rp lo ba n f cb pl tu x) := by
  refine Ct_of (by decide +kernel) (Nat.le_of_ble_eq_true rfl) ?_
  intro p9 e9 s9 m9 ag9 bl9 mt9 c9 A9 fx hr hnm
  refine v_aload_n fx 0 dX7_byteAt_0 rfl rfl ?_
  refine v_get fx 0 4 inX7 k280 dX7_byteAt_1 rfl rfl (by decide) rfl rfl rfl ?_
  refine v_iload_n fx 1 dX7_byteAt_4 rfl rfl ?_
  refine v_callV (As := [.int (iI x)]) (rest := []) fx [1, 2] [0] [(wr, ob 0 [.ref ba, .int (iI cb), .int (iI pl), .int (iI tu)]), (ba, aB g n f)] [(h0, ob 7 [.int (iI kd), .int (iI w), .ref sm, .ref r, .ref wr, .ref fd, .ref wt, .ref rd, .int (iI fl), .int (iI rp), .int (iI lo)])] 1 0 (c_X0_byteOf l g wr ba n f cb pl tu x (by first | omega | decide | assumption) (by exact hp1) (by first | omega | decide | assumption)) dX7_byteAt_5 k778 k779 k780 k50 k781 ykX0_byteOf rfl rfl rfl rfl rfl rfl rfl rfl (nl rfl) ⟨nl rfl, nl rfl⟩ ⟨(nl rfl), (nl rfl)⟩ rfl (fun v9 w9 hu => ?_)
  obtain ⟨r_1, rfl, rfl⟩ := hu
  refine v_is (wn := [(h0, ob 7 [.int (iI kd), .int (iI w), .ref sm, .ref r, .ref wr, .ref fd, .ref wt, .ref rd, .int (iI fl), .int (iI rp), .int (iI lo)]), (wr, ob 0 [.ref ba, .int (iI cb), .int (iI pl), .int (iI tu)]), (ba, aB g n f)]) (cn := 0) (sn := 0) (sn2 := [.int r_1]) rfl rfl rfl rfl ?_
  exact v_iret fx [(h0, ob 7 [.int (iI kd), .int (iI w), .ref sm, .ref r, .ref wr, .ref fd, .ref wt, .ref rd, .int (iI fl), .int (iI rp), .int (iI lo)]), (wr, ob 0 [.ref ba, .int (iI cb), .int (iI pl), .int (iI tu)]), (ba, aB g n f)] [0, 1, 2] hr dX7_byteAt_8 rfl rfl (nl rfl) (nl rfl) ⟨r_1, rfl, rfl⟩
theorem dX7_feed_0 : decode cX7_feed 0 = .ok (.aload_n 0, 1) := by decide +kernel
theorem dX7_feed_1 : decode cX7_feed 1 = .ok (.getfield 48, 3) := by decide +kernel
theorem dX7_feed_4 : decode cX7_feed 4 = .ok (.invokevirtual 103, 3) := by decide +kernel
theorem dX7_feed_7 : decode cX7_feed 7 = .ok (.sipush 2000, 3) := by decide +kernel
theorem dX7_feed_10 : decode cX7_feed 10 = .ok (.if_icmp .lt 5, 3) := by decide +kernel
theorem dX7_feed_13 : decode cX7_feed 13 = .ok (.iconst 0, 1) := by decide +kernel
theorem dX7_feed_14 : decode cX7_feed 14 = .ok (.ireturn, 1) := by decide +kernel
theorem dX7_feed_15 : decode cX7_feed 15 = .ok (.aload_n 0, 1) := by decide +kernel
theorem dX7_feed_16 : decode cX7_feed 16 = .ok (.getfield 48, 3) := by decide +kernel
theorem dX7_feed_19 : decode cX7_feed 19 = .ok (.iload_n 1, 1) := by decide +kernel
theorem dX7_feed_20 : decode cX7_feed 20 = .ok (.invokevirtual 110, 3) := by decide +kernel
theorem dX7_feed_23 : decode cX7_feed 23 = .ok (.iconst 1, 1) := by decide +kernel
theorem dX7_feed_24 : decode cX7_feed 24 = .ok (.ireturn, 1) := by decide +kernel
abbrev po_c_X7_feed (g : GG) (h0 : Nat) (kd : Int) (w : Int) (sm : Nat) (r : Nat) (wr : Nat) (fd : Nat) (wt : Nat) (rd : Nat) (fl : Int) (rp : Int) (lo : Int) (ba : Nat) (n : Nat) (f : Nat → Int32) (cb : Int) (pl : Int) (tu : Int) (x : Int32) : Option Value → va_W → Nat → Nat → Prop := fun v8 w8 kc8 ks8 => ∃ b2 : Nat, ∃ n2 : Nat, ∃ f2 : Nat → Int32, ∃ c2 : Int, ∃ q : Int, v8 = some (.int (iI q)) ∧ w8 = [(h0, ob 7 [.int (iI kd), .int (iI w), .ref sm, .ref r, .ref wr, .ref fd, .ref wt, .ref rd, .int (iI fl), .int (iI rp), .int (iI lo)]), (fd, ob 0 [.ref b2, .int (iI c2), .int (iI pl), .int (iI tu)]), (b2, aB g n2 f2)] ∧ (ks8 + 2 * n ≤ 2 * n2 ∧ 64 * kc8 ≤ ks8 ∧ n ≤ n2 ∧ n2 ≤ 130000) ∧ (c2 ≤ 8 * (n2 : Int)) ∧ (bF f2) ∧ ((q = 1 ∧ cb < 16000 ∧ c2 = cb + 8) ∨ (q = 0 ∧ cb = 16000 ∧ c2 = cb))
set_option maxHeartbeats 4000000 in
set_option maxRecDepth 100000 in
theorem c_X7_feed (l : Launch) (g : GG) (h0 : Nat) (kd : Int) (w : Int) (sm : Nat) (r : Nat) (wr : Nat) (fd : Nat) (wt : Nat) (rd : Nat) (fl : Int) (rp : Int) (lo : Int) (ba : Nat) (n : Nat) (f : Nat → Int32) (cb : Int) (pl : Int) (tu : Int) (x : Int32) (hp0 : 0 ≤ cb ∧ cb ≤ 8 * (n : Int) ∧ 64 ≤ n ∧ n ≤ 130000) (hp1 : bF f) (hp2 : cb ≤ 16000 ∧ cb % 8 = 0) : CtE l g yX7_feed (wM yX7_feed cX7_feed 2 (some .boolean)) (rmD 4 2 530000) [.ref h0, .int x] [(h0, ob 7 [.int (iI kd), .int (iI w), .ref sm, .ref r, .ref wr, .ref fd, .ref wt, .ref rd, .int (iI fl), .int (iI rp), .int (iI lo)]), (fd, ob 0 [.ref ba, .int (iI cb), .int (iI pl), .int (iI tu)]), (ba, aB g n f)] (po_c_X7_feed g h0 kd w sm r wr fd wt rd fl rp lo ba n f cb pl tu x) := by
  refine CtE_of (by decide +kernel) (Nat.le_of_ble_eq_true rfl) ?_
  intro p9 e9 s9 m9 ag9 bl9 mt9 c9 A9 fx hr hnm
  refine v_aload_n fx 0 dX7_feed_0 rfl rfl ?_
  refine v_get fx 0 5 inX7 k281 dX7_feed_1 rfl rfl (by decide) rfl rfl rfl ?_
  refine v_callV (As := []) (rest := []) fx [1] [0, 2] [(fd, ob 0 [.ref ba, .int (iI cb), .int (iI pl), .int (iI tu)])] [(h0, ob 7 [.int (iI kd), .int (iI w), .ref sm, .ref r, .ref wr, .ref fd, .ref wt, .ref rd, .int (iI fl), .int (iI rp), .int (iI lo)]), (ba, aB g n f)] 0 0 (c_X0_byteCount l g fd ba cb pl tu (by first | omega | decide | assumption)) dX7_feed_4 k773 k363 k364 k50 k365 ykX0_byteCount rfl rfl rfl rfl rfl rfl rfl rfl (nl rfl) ⟨nl rfl, nl rfl⟩ ⟨(nl rfl), (nl rfl)⟩ rfl (fun v9 w9 hu => ?_)
  obtain ⟨rfl, rfl⟩ := hu
  refine v_is (wn := [(h0, ob 7 [.int (iI kd), .int (iI w), .ref sm, .ref r, .ref wr, .ref fd, .ref wt, .ref rd, .int (iI fl), .int (iI rp), .int (iI lo)]), (ba, aB g n f), (fd, ob 0 [.ref ba, .int (iI cb), .int (iI pl), .int (iI tu)])]) (cn := 0) (sn := 0) (sn2 := [.int (iI ((cb + 7) / 8))]) rfl rfl rfl rfl ?_
  refine v_sipush fx dX7_feed_7 (by decide +kernel) rfl ?_
  refine v_icmp_lt fx 15 dX7_feed_10 (by decide) rfl (by omega) (by omega) (fun h_1 => ?_) (fun h_1 => ?_)
  ·
    refine v_aload_n fx 0 dX7_feed_15 rfl rfl ?_
    refine v_get fx 0 5 inX7 k281 dX7_feed_16 rfl rfl (by decide) rfl rfl rfl ?_
    refine v_iload_n fx 1 dX7_feed_19 rfl rfl ?_
    refine v_callVE (As := [.int x]) (rest := []) fx [2, 1] [0] [(fd, ob 0 [.ref ba, .int (iI cb), .int (iI pl), .int (iI tu)]), (ba, aB g n f)] [(h0, ob 7 [.int (iI kd), .int (iI w), .ref sm, .ref r, .ref wr, .ref fd, .ref wt, .ref rd, .int (iI fl), .int (iI rp), .int (iI lo)])] 1 0 (c_X0_addByte l g fd ba n f cb pl tu x (by first | omega | decide | assumption) (by exact hp1) (by first | omega | decide | assumption)) dX7_feed_20 k786 k787 k788 k50 k789 ykX0_addByte rfl rfl rfl rfl rfl rfl rfl rfl (nl rfl) ⟨nl rfl, nl rfl⟩ ⟨(nl rfl), (nl rfl)⟩ rfl (fun v9 w9 kc_2 ks_3 hu => ?_)
    obtain ⟨b2_4, n2_5, f2_6, rfl, rfl, u_7, u_8, u_9⟩ := hu
    refine v_is (wn := [(h0, ob 7 [.int (iI kd), .int (iI w), .ref sm, .ref r, .ref wr, .ref fd, .ref wt, .ref rd, .int (iI fl), .int (iI rp), .int (iI lo)]), (fd, ob 0 [.ref b2_4, .int (iI (cb + 8)), .int (iI pl), .int (iI tu)]), (b2_4, aB g n2_5 f2_6)]) (cn := kc_2) (sn := ks_3) (sn2 := []) rfl (Nat.zero_add _) (Nat.zero_add _) rfl ?_
    refine v_iconst fx dX7_feed_23 rfl ?_
    exact v_zretE fx [(h0, ob 7 [.int (iI kd), .int (iI w), .ref sm, .ref r, .ref wr, .ref fd, .ref wt, .ref rd, .int (iI fl), .int (iI rp), .int (iI lo)]), (fd, ob 0 [.ref b2_4, .int (iI (cb + 8)), .int (iI pl), .int (iI tu)]), (b2_4, aB g n2_5 f2_6)] [0, 1, 2] hr dX7_feed_24 (by first | rfl | exact nar_z _ (by omega)) rfl rfl ⟨b2_4, n2_5, f2_6, (cb + 8), 1, rfl, rfl, (by first | omega | rfl | assumption), (by first | omega | rfl | assumption), (by assumption), (by first | omega | rfl | assumption)⟩
  ·
    refine v_iconst fx dX7_feed_13 rfl ?_
    exact v_zretE fx [(h0, ob 7 [.int (iI kd), .int (iI w), .ref sm, .ref r, .ref wr, .ref fd, .ref wt, .ref rd, .int (iI fl), .int (iI rp), .int (iI lo)]), (fd, ob 0 [.ref ba, .int (iI cb), .int (iI pl), .int (iI tu)]), (ba, aB g n f)] [0, 2, 1] hr dX7_feed_14 (by first | rfl | exact nar_z _ (by omega)) rfl rfl ⟨ba, n, f, cb, 0, rfl, rfl, (by first | omega | rfl | assumption), (by first | omega | rfl | assumption), (by exact hp1), (by first | omega | rfl | assumption)⟩
theorem dX7_put_0 : decode cX7_put 0 = .ok (.iload_n 1, 1) := by decide +kernel
theorem dX7_put_1 : decode cX7_put 1 = .ok (.ifCond .lt 11, 3) := by decide +kernel
theorem dX7_put_4 : decode cX7_put 4 = .ok (.iload_n 1, 1) := by decide +kernel
theorem dX7_put_5 : decode cX7_put 5 = .ok (.aload_n 0, 1) := by decide +kernel
theorem dX7_put_6 : decode cX7_put 6 = .ok (.getfield 22, 3) := by decide +kernel
theorem dX7_put_9 : decode cX7_put 9 = .ok (.if_icmp .lt 5, 3) := by decide +kernel
theorem dX7_put_12 : decode cX7_put 12 = .ok (.iconst 0, 1) := by decide +kernel
theorem dX7_put_13 : decode cX7_put 13 = .ok (.ireturn, 1) := by decide +kernel
theorem dX7_put_14 : decode cX7_put 14 = .ok (.aload_n 0, 1) := by decide +kernel
theorem dX7_put_15 : decode cX7_put 15 = .ok (.getfield 30, 3) := by decide +kernel
theorem dX7_put_18 : decode cX7_put 18 = .ok (.iload_n 1, 1) := by decide +kernel
theorem dX7_put_19 : decode cX7_put 19 = .ok (.iload_n 2, 1) := by decide +kernel
theorem dX7_put_20 : decode cX7_put 20 = .ok (.invokevirtual 69, 3) := by decide +kernel
theorem dX7_put_23 : decode cX7_put 23 = .ok (.iconst 1, 1) := by decide +kernel
theorem dX7_put_24 : decode cX7_put 24 = .ok (.ireturn, 1) := by decide +kernel
abbrev po_c_X7_put (g : GG) (h0 : Nat) (kd : Int) (w : Int) (sm : Nat) (r : Nat) (wr : Nat) (fd : Nat) (wt : Nat) (rd : Nat) (fl : Int) (rp : Int) (lo : Int) (sa : Nat) (fw : Nat → Int32) (x : Int) (on : Int) : Option Value → va_W → Prop := fun v8 w8 => ∃ q : Int, ∃ f2 : Nat → Int32, v8 = some (.int (iI q)) ∧ w8 = [(h0, ob 7 [.int (iI kd), .int (iI w), .ref sm, .ref r, .ref wr, .ref fd, .ref wt, .ref rd, .int (iI fl), .int (iI rp), .int (iI lo)]), (sm, ob 4 [.int (iI w), .ref sa]), (sa, aI g (((w + 31) / 32).toNat) f2)] ∧ ((q = 1 ∧ 0 ≤ x ∧ x < w) ∨ (q = 0 ∧ (x < 0 ∨ w ≤ x)))
set_option maxHeartbeats 4000000 in
set_option maxRecDepth 100000 in
theorem c_X7_put (l : Launch) (g : GG) (h0 : Nat) (kd : Int) (w : Int) (sm : Nat) (r : Nat) (wr : Nat) (fd : Nat) (wt : Nat) (rd : Nat) (fl : Int) (rp : Int) (lo : Int) (sa : Nat) (fw : Nat → Int32) (x : Int) (on : Int) (hp0 : -2147483648 ≤ x ∧ x < 2147483648) (hp1 : 0 ≤ on ∧ on ≤ 1) (hp2 : 1 ≤ w ∧ w ≤ 3000) : Ct l g yX7_put (wM yX7_put cX7_put 3 (some .boolean)) (rmD 1 0 0) [.ref h0, .int (iI x), .int (iI on)] [(h0, ob 7 [.int (iI kd), .int (iI w), .ref sm, .ref r, .ref wr, .ref fd, .ref wt, .ref rd, .int (iI fl), .int (iI rp), .int (iI lo)]), (sm, ob 4 [.int (iI w), .ref sa]), (sa, aI g (((w + 31) / 32).toNat) fw)] (po_c_X7_put g h0 kd w sm r wr fd wt rd fl rp lo sa fw x on) := by
  refine Ct_of (by decide +kernel) (Nat.le_of_ble_eq_true rfl) ?_
  intro p9 e9 s9 m9 ag9 bl9 mt9 c9 A9 fx hr hnm
  refine v_iload_n fx 1 dX7_put_0 rfl rfl ?_
  refine v_if_lt fx 12 dX7_put_1 (by decide) rfl (by omega) (fun h_1 => ?_) (fun h_1 => ?_)
  ·
    refine v_iconst fx dX7_put_12 rfl ?_
    exact v_zret fx [(h0, ob 7 [.int (iI kd), .int (iI w), .ref sm, .ref r, .ref wr, .ref fd, .ref wt, .ref rd, .int (iI fl), .int (iI rp), .int (iI lo)]), (sm, ob 4 [.int (iI w), .ref sa]), (sa, aI g (((w + 31) / 32).toNat) fw)] [0, 1, 2] hr dX7_put_13 (by first | rfl | exact nar_z _ (by omega)) rfl rfl (nl rfl) (nl rfl) ⟨0, fw, rfl, rfl, (by first | omega | rfl | assumption)⟩
  ·
    refine v_iload_n fx 1 dX7_put_4 rfl rfl ?_
    refine v_aload_n fx 0 dX7_put_5 rfl rfl ?_
    refine v_get fx 0 1 inX7 k277 dX7_put_6 rfl rfl (by decide) rfl rfl rfl ?_
    refine v_icmp_lt fx 14 dX7_put_9 (by decide) rfl (by omega) (by omega) (fun h_2 => ?_) (fun h_2 => ?_)
    ·
      refine v_aload_n fx 0 dX7_put_14 rfl rfl ?_
      refine v_get fx 0 2 inX7 k278 dX7_put_15 rfl rfl (by decide) rfl rfl rfl ?_
      refine v_iload_n fx 1 dX7_put_18 rfl rfl ?_
      refine v_iload_n fx 2 dX7_put_19 rfl rfl ?_
      refine v_callV (As := [.int (iI x), .int (iI on)]) (rest := []) fx [1, 2] [0] [(sm, ob 4 [.int (iI w), .ref sa]), (sa, aI g (((w + 31) / 32).toNat) fw)] [(h0, ob 7 [.int (iI kd), .int (iI w), .ref sm, .ref r, .ref wr, .ref fd, .ref wt, .ref rd, .int (iI fl), .int (iI rp), .int (iI lo)])] 2 0 (c_X4_set l g sm sa (((w + 31) / 32).toNat) fw (iI w) x on (by first | omega | decide | assumption) (by first | omega | decide | assumption) (by first | omega | decide | assumption)) dX7_put_20 k314 k315 k316 k48 k317 ykX4_set rfl rfl rfl rfl rfl rfl rfl rfl (nl rfl) ⟨nl rfl, nl rfl⟩ ⟨(nl rfl), (nl rfl)⟩ rfl (fun v9 w9 hu => ?_)
      obtain ⟨f2_3, rfl, rfl⟩ := hu
      refine v_is (wn := [(h0, ob 7 [.int (iI kd), .int (iI w), .ref sm, .ref r, .ref wr, .ref fd, .ref wt, .ref rd, .int (iI fl), .int (iI rp), .int (iI lo)]), (sm, ob 4 [.int (iI w), .ref sa]), (sa, aI g (((w + 31) / 32).toNat) f2_3)]) (cn := 0) (sn := 0) (sn2 := []) rfl rfl rfl rfl ?_
      refine v_iconst fx dX7_put_23 rfl ?_
      exact v_zret fx [(h0, ob 7 [.int (iI kd), .int (iI w), .ref sm, .ref r, .ref wr, .ref fd, .ref wt, .ref rd, .int (iI fl), .int (iI rp), .int (iI lo)]), (sm, ob 4 [.int (iI w), .ref sa]), (sa, aI g (((w + 31) / 32).toNat) f2_3)] [0, 1, 2] hr dX7_put_24 (by first | rfl | exact nar_z _ (by omega)) rfl rfl (nl rfl) (nl rfl) ⟨1, f2_3, rfl, rfl, (by first | omega | rfl | assumption)⟩
    ·
      refine v_iconst fx dX7_put_12 rfl ?_
      exact v_zret fx [(h0, ob 7 [.int (iI kd), .int (iI w), .ref sm, .ref r, .ref wr, .ref fd, .ref wt, .ref rd, .int (iI fl), .int (iI rp), .int (iI lo)]), (sm, ob 4 [.int (iI w), .ref sa]), (sa, aI g (((w + 31) / 32).toNat) fw)] [0, 1, 2] hr dX7_put_13 (by first | rfl | exact nar_z _ (by omega)) rfl rfl (nl rfl) (nl rfl) ⟨0, fw, rfl, rfl, (by first | omega | rfl | assumption)⟩
theorem dX7_endRow_0 : decode cX7_endRow 0 = .ok (.aload_n 0, 1) := by decide +kernel
theorem dX7_endRow_1 : decode cX7_endRow 1 = .ok (.getfield 37, 3) := by decide +kernel
theorem dX7_endRow_4 : decode cX7_endRow 4 = .ok (.invokevirtual 73, 3) := by decide +kernel
theorem dX7_endRow_7 : decode cX7_endRow 7 = .ok (.bipush 24, 2) := by decide +kernel
theorem dX7_endRow_9 : decode cX7_endRow 9 = .ok (.if_icmp .lt 5, 3) := by decide +kernel
theorem dX7_endRow_12 : decode cX7_endRow 12 = .ok (.iconst 0, 1) := by decide +kernel
theorem dX7_endRow_13 : decode cX7_endRow 13 = .ok (.ireturn, 1) := by decide +kernel
theorem dX7_endRow_14 : decode cX7_endRow 14 = .ok (.aload_n 0, 1) := by decide +kernel
theorem dX7_endRow_15 : decode cX7_endRow 15 = .ok (.getfield 30, 3) := by decide +kernel
theorem dX7_endRow_18 : decode cX7_endRow 18 = .ok (.aload_n 0, 1) := by decide +kernel
theorem dX7_endRow_19 : decode cX7_endRow 19 = .ok (.getfield 37, 3) := by decide +kernel
theorem dX7_endRow_22 : decode cX7_endRow 22 = .ok (.invokevirtual 77, 3) := by decide +kernel
theorem dX7_endRow_25 : decode cX7_endRow 25 = .ok (.aload_n 0, 1) := by decide +kernel
theorem dX7_endRow_26 : decode cX7_endRow 26 = .ok (.getfield 37, 3) := by decide +kernel
theorem dX7_endRow_29 : decode cX7_endRow 29 = .ok (.invokevirtual 81, 3) := by decide +kernel
theorem dX7_endRow_32 : decode cX7_endRow 32 = .ok (.aload_n 0, 1) := by decide +kernel
theorem dX7_endRow_33 : decode cX7_endRow 33 = .ok (.getfield 30, 3) := by decide +kernel
theorem dX7_endRow_36 : decode cX7_endRow 36 = .ok (.invokevirtual 84, 3) := by decide +kernel
theorem dX7_endRow_39 : decode cX7_endRow 39 = .ok (.iconst 1, 1) := by decide +kernel
theorem dX7_endRow_40 : decode cX7_endRow 40 = .ok (.ireturn, 1) := by decide +kernel
abbrev po_c_X7_endRow (g : GG) (h0 : Nat) (kd : Int) (w : Int) (sm : Nat) (r : Nat) (wr : Nat) (fd : Nat) (wt : Nat) (rd : Nat) (fl : Int) (rp : Int) (lo : Int) (sa : Nat) (fw : Nat → Int32) (rs : Nat) (it : Nat) (m : Nat) (c : Int) (F : Nat → Int) (fs : Nat → Int32) (fi : Nat → Int32) : Option Value → va_W → Nat → Nat → Prop := fun v8 w8 kc8 ks8 => ∃ q : Int, ∃ i2 : Nat, ∃ n2 : Nat, ∃ s2 : Nat → Int32, ∃ f2 : Nat → Int32, ∃ w2 : Nat → Int32, ∃ c2 : Int, ∃ F2 : Nat → Int, v8 = some (.int (iI q)) ∧ w8 = [(h0, ob 7 [.int (iI kd), .int (iI w), .ref sm, .ref r, .ref wr, .ref fd, .ref wt, .ref rd, .int (iI fl), .int (iI rp), .int (iI lo)]), (sm, ob 4 [.int (iI w), .ref sa]), (sa, aI g (((w + 31) / 32).toNat) w2), (r, ob 2 [.ref rs, .ref i2, .int (iI c2)]), (rs, aI g 27 s2), (i2, aI g n2 f2)] ∧ (LB c2 F2 s2 n2) ∧ (RI w c2 F2 f2) ∧ (F2 (c2.toNat + 1) = F2 c2.toNat) ∧ (ks8 + 2 * m ≤ 2 * n2 ∧ 64 * kc8 ≤ ks8 ∧ m ≤ n2 ∧ n2 ≤ 160000) ∧ ((q = 1 ∧ c < 24 ∧ c2 = c + 1) ∨ (q = 0 ∧ c = 24 ∧ c2 = c))
set_option maxHeartbeats 4000000 in
set_option maxRecDepth 100000 in
theorem c_X7_endRow (l : Launch) (g : GG) (h0 : Nat) (kd : Int) (w : Int) (sm : Nat) (r : Nat) (wr : Nat) (fd : Nat) (wt : Nat) (rd : Nat) (fl : Int) (rp : Int) (lo : Int) (sa : Nat) (fw : Nat → Int32) (rs : Nat) (it : Nat) (m : Nat) (c : Int) (F : Nat → Int) (fs : Nat → Int32) (fi : Nat → Int32) (hp0 : LB c F fs m) (hp1 : RI w c F fi) (hp2 : F (c.toNat + 1) = F c.toNat) (hp3 : 1 ≤ w ∧ w ≤ 3000) (hp4 : m ≤ 160000) (hp5 : c ≤ 24) : CtE l g yX7_endRow (wM yX7_endRow cX7_endRow 1 (some .boolean)) (rmD 5 11100 1300000) [.ref h0] [(h0, ob 7 [.int (iI kd), .int (iI w), .ref sm, .ref r, .ref wr, .ref fd, .ref wt, .ref rd, .int (iI fl), .int (iI rp), .int (iI lo)]), (sm, ob 4 [.int (iI w), .ref sa]), (sa, aI g (((w + 31) / 32).toNat) fw), (r, ob 2 [.ref rs, .ref it, .int (iI c)]), (rs, aI g 27 fs), (it, aI g m fi)] (po_c_X7_endRow g h0 kd w sm r wr fd wt rd fl rp lo sa fw rs it m c F fs fi) := by
  refine CtE_of (by decide +kernel) (Nat.le_of_ble_eq_true rfl) ?_
  intro p9 e9 s9 m9 ag9 bl9 mt9 c9 A9 fx hr hnm
  have hc := LB_c hp0
  refine v_aload_n fx 0 dX7_endRow_0 rfl rfl ?_
  refine v_get fx 0 3 inX7 k279 dX7_endRow_1 rfl rfl (by decide) rfl rfl rfl ?_
  refine v_callV (As := []) (rest := []) fx [3] [0, 1, 2, 4, 5] [(r, ob 2 [.ref rs, .ref it, .int (iI c)])] [(h0, ob 7 [.int (iI kd), .int (iI w), .ref sm, .ref r, .ref wr, .ref fd, .ref wt, .ref rd, .int (iI fl), .int (iI rp), .int (iI lo)]), (sm, ob 4 [.int (iI w), .ref sa]), (sa, aI g (((w + 31) / 32).toNat) fw), (rs, aI g 27 fs), (it, aI g m fi)] 0 0 (c_X2_count l g r rs it c ) dX7_endRow_4 k322 k323 k324 k49 k325 ykX2_count rfl rfl rfl rfl rfl rfl rfl rfl (nl rfl) ⟨nl rfl, nl rfl⟩ ⟨(nl rfl), (nl rfl)⟩ rfl (fun v9 w9 hu => ?_)
  obtain ⟨rfl, rfl⟩ := hu
  refine v_is (wn := [(h0, ob 7 [.int (iI kd), .int (iI w), .ref sm, .ref r, .ref wr, .ref fd, .ref wt, .ref rd, .int (iI fl), .int (iI rp), .int (iI lo)]), (sm, ob 4 [.int (iI w), .ref sa]), (sa, aI g (((w + 31) / 32).toNat) fw), (rs, aI g 27 fs), (it, aI g m fi), (r, ob 2 [.ref rs, .ref it, .int (iI c)])]) (cn := 0) (sn := 0) (sn2 := [.int (iI c)]) rfl rfl rfl rfl ?_
  refine v_bipush fx dX7_endRow_7 (by decide +kernel) rfl ?_
  refine v_icmp_lt fx 14 dX7_endRow_9 (by decide) rfl (by omega) (by omega) (fun h_1 => ?_) (fun h_1 => ?_)
  ·
    refine v_aload_n fx 0 dX7_endRow_14 rfl rfl ?_
    refine v_get fx 0 2 inX7 k278 dX7_endRow_15 rfl rfl (by decide) rfl rfl rfl ?_
    refine v_aload_n fx 0 dX7_endRow_18 rfl rfl ?_
    refine v_get fx 0 3 inX7 k279 dX7_endRow_19 rfl rfl (by decide) rfl rfl rfl ?_
    refine v_callVE (As := [.ref r]) (rest := []) fx [1, 2, 5, 3, 4] [0] [(sm, ob 4 [.int (iI w), .ref sa]), (sa, aI g (((w + 31) / 32).toNat) fw), (r, ob 2 [.ref rs, .ref it, .int (iI c)]), (rs, aI g 27 fs), (it, aI g m fi)] [(h0, ob 7 [.int (iI kd), .int (iI w), .ref sm, .ref r, .ref wr, .ref fd, .ref wt, .ref rd, .int (iI fl), .int (iI rp), .int (iI lo)])] 1 0 (c_X4_addChangesTo l g sm sa w fw r rs it m c F fs fi (by exact hp0) (by exact hp1) (by exact hp2) (by first | omega | decide | assumption) (by first | omega | decide | assumption) (by first | omega | decide | assumption)) dX7_endRow_22 k326 k327 k328 k48 k329 ykX4_addChangesTo rfl rfl rfl rfl rfl rfl rfl rfl (nl rfl) ⟨nl rfl, nl rfl⟩ ⟨(by show 0 + (6000 + 5001) ≤ 11100; omega), (nl rfl)⟩ rfl (fun v9 w9 kc_2 ks_3 hu => ?_)
    obtain ⟨i2_4, nz, sz, fz, ee, rfl, rfl, u_5, u_6, u_7, u_8, u_9⟩ := hu
    refine v_is (wn := [(h0, ob 7 [.int (iI kd), .int (iI w), .ref sm, .ref r, .ref wr, .ref fd, .ref wt, .ref rd, .int (iI fl), .int (iI rp), .int (iI lo)]), (sm, ob 4 [.int (iI w), .ref sa]), (sa, aI g (((w + 31) / 32).toNat) fw), (r, ob 2 [.ref rs, .ref i2_4, .int (iI c)]), (rs, aI g 27 sz), (i2_4, aI g nz fz)]) (cn := kc_2) (sn := ks_3) (sn2 := []) rfl (Nat.zero_add _) (Nat.zero_add _) rfl ?_
    have hL1 := u_5
    have hR1 := RI_keep hp0 hp1 (E := F c.toNat) (Int.le_refl _) u_7 ee
    have hI1 := u_9
    refine v_aload_n fx 0 dX7_endRow_25 rfl rfl ?_
    refine v_get fx 0 3 inX7 k279 dX7_endRow_26 rfl rfl (by decide) rfl rfl rfl ?_
    refine v_callV (As := []) (rest := []) fx [3, 4] [0, 1, 2, 5] [(r, ob 2 [.ref rs, .ref i2_4, .int (iI c)]), (rs, aI g 27 sz)] [(h0, ob 7 [.int (iI kd), .int (iI w), .ref sm, .ref r, .ref wr, .ref fd, .ref wt, .ref rd, .int (iI fl), .int (iI rp), .int (iI lo)]), (sm, ob 4 [.int (iI w), .ref sa]), (sa, aI g (((w + 31) / 32).toNat) fw), (i2_4, aI g nz fz)] 0 0 (c_X2_close l g r rs i2_4 nz c (fU F (c.toNat + 1) ee) sz fz (by exact hL1) (by first | omega | decide | assumption)) dX7_endRow_29 k339 k340 k341 k49 k342 ykX2_close rfl rfl rfl rfl rfl rfl rfl rfl (nl rfl) ⟨nl rfl, nl rfl⟩ ⟨(by show kc_2 + 0 ≤ 11100; omega), (by show ks_3 + 0 ≤ 1300000; omega)⟩ rfl (fun v9 w9 hu => ?_)
    obtain ⟨sy, rfl, rfl, u_10⟩ := hu
    refine v_is (wn := [(h0, ob 7 [.int (iI kd), .int (iI w), .ref sm, .ref r, .ref wr, .ref fd, .ref wt, .ref rd, .int (iI fl), .int (iI rp), .int (iI lo)]), (sm, ob 4 [.int (iI w), .ref sa]), (sa, aI g (((w + 31) / 32).toNat) fw), (i2_4, aI g nz fz), (r, ob 2 [.ref rs, .ref i2_4, .int (iI (c + 1))]), (rs, aI g 27 sy)]) (cn := kc_2) (sn := ks_3) (sn2 := []) rfl rfl rfl rfl ?_
    have hL2 := LB_close hL1 (by omega)
    rw [← u_10] at hL2
    have hR2 := RI_close hL1 hR1 (by rw [fU_s, fU_b]; exact hI1) (fU F (c.toNat + 1) ee (c.toNat + 1))
    refine v_aload_n fx 0 dX7_endRow_32 rfl rfl ?_
    refine v_get fx 0 2 inX7 k278 dX7_endRow_33 rfl rfl (by decide) rfl rfl rfl ?_
    refine v_callV (As := []) (rest := []) fx [1, 2] [0, 3, 4, 5] [(sm, ob 4 [.int (iI w), .ref sa]), (sa, aI g (((w + 31) / 32).toNat) fw)] [(h0, ob 7 [.int (iI kd), .int (iI w), .ref sm, .ref r, .ref wr, .ref fd, .ref wt, .ref rd, .int (iI fl), .int (iI rp), .int (iI lo)]), (i2_4, aI g nz fz), (r, ob 2 [.ref rs, .ref i2_4, .int (iI (c + 1))]), (rs, aI g 27 sy)] 0 0 (c_X4_whiten l g sm sa (((w + 31) / 32).toNat) fw (iI w) (by first | omega | decide | assumption)) dX7_endRow_36 k347 k348 k349 k48 k350 ykX4_whiten rfl rfl rfl rfl rfl rfl rfl rfl (nl rfl) ⟨nl rfl, nl rfl⟩ ⟨(by show kc_2 + 0 ≤ 11100; omega), (by show ks_3 + 0 ≤ 1300000; omega)⟩ rfl (fun v9 w9 hu => ?_)
    obtain ⟨f2_11, rfl, rfl⟩ := hu
    refine v_is (wn := [(h0, ob 7 [.int (iI kd), .int (iI w), .ref sm, .ref r, .ref wr, .ref fd, .ref wt, .ref rd, .int (iI fl), .int (iI rp), .int (iI lo)]), (i2_4, aI g nz fz), (r, ob 2 [.ref rs, .ref i2_4, .int (iI (c + 1))]), (rs, aI g 27 sy), (sm, ob 4 [.int (iI w), .ref sa]), (sa, aI g (((w + 31) / 32).toNat) f2_11)]) (cn := kc_2) (sn := ks_3) (sn2 := []) rfl rfl rfl rfl ?_
    refine v_iconst fx dX7_endRow_39 rfl ?_
    exact v_zretE fx [(h0, ob 7 [.int (iI kd), .int (iI w), .ref sm, .ref r, .ref wr, .ref fd, .ref wt, .ref rd, .int (iI fl), .int (iI rp), .int (iI lo)]), (sm, ob 4 [.int (iI w), .ref sa]), (sa, aI g (((w + 31) / 32).toNat) f2_11), (r, ob 2 [.ref rs, .ref i2_4, .int (iI (c + 1))]), (rs, aI g 27 sy), (i2_4, aI g nz fz)] [0, 4, 5, 2, 3, 1] hr dX7_endRow_40 (by first | rfl | exact nar_z _ (by omega)) rfl rfl ⟨1, i2_4, nz, sy, fz, f2_11, (c + 1), (fU (fU F (c.toNat + 1) ee) (c.toNat + 2) (fU F (c.toNat + 1) ee (c.toNat + 1))), rfl, rfl, (by exact hL2), (by exact hR2), (by exact fU_open (by omega)), (by first | omega | rfl | assumption), (by first | omega | rfl | assumption)⟩
  ·
    refine v_iconst fx dX7_endRow_12 rfl ?_
    exact v_zretE fx [(h0, ob 7 [.int (iI kd), .int (iI w), .ref sm, .ref r, .ref wr, .ref fd, .ref wt, .ref rd, .int (iI fl), .int (iI rp), .int (iI lo)]), (sm, ob 4 [.int (iI w), .ref sa]), (sa, aI g (((w + 31) / 32).toNat) fw), (r, ob 2 [.ref rs, .ref it, .int (iI c)]), (rs, aI g 27 fs), (it, aI g m fi)] [0, 1, 2, 5, 3, 4] hr dX7_endRow_13 (by first | rfl | exact nar_z _ (by omega)) rfl rfl ⟨0, it, m, fs, fi, fw, c, F, rfl, rfl, (by exact hp0), (by exact hp1), (by exact hp2), (by first | omega | rfl | assumption), (by first | omega | rfl | assumption)⟩
theorem dX7_fill_0 : decode cX7_fill 0 = .ok (.iload_n 1, 1) := by decide +kernel
theorem dX7_fill_1 : decode cX7_fill 1 = .ok (.ifCond .lt 10, 3) := by decide +kernel
theorem dX7_fill_4 : decode cX7_fill 4 = .ok (.iload_n 1, 1) := by decide +kernel
theorem dX7_fill_5 : decode cX7_fill 5 = .ok (.sipush 4000, 3) := by decide +kernel
theorem dX7_fill_8 : decode cX7_fill 8 = .ok (.if_icmp .le 5, 3) := by decide +kernel
theorem dX7_fill_11 : decode cX7_fill 11 = .ok (.iconst 0, 1) := by decide +kernel
theorem dX7_fill_12 : decode cX7_fill 12 = .ok (.ireturn, 1) := by decide +kernel
theorem dX7_fill_13 : decode cX7_fill 13 = .ok (.aload_n 0, 1) := by decide +kernel
theorem dX7_fill_14 : decode cX7_fill 14 = .ok (.iload_n 1, 1) := by decide +kernel
theorem dX7_fill_15 : decode cX7_fill 15 = .ok (.putfield 93, 3) := by decide +kernel
theorem dX7_fill_18 : decode cX7_fill 18 = .ok (.iconst 1, 1) := by decide +kernel
theorem dX7_fill_19 : decode cX7_fill 19 = .ok (.ireturn, 1) := by decide +kernel
abbrev po_c_X7_fill (g : GG) (h0 : Nat) (kd : Int) (w : Int) (sm : Nat) (r : Nat) (wr : Nat) (fd : Nat) (wt : Nat) (rd : Nat) (fl : Int) (rp : Int) (lo : Int) (x : Int) : Option Value → va_W → Prop := fun v8 w8 => ∃ q : Int, ∃ f2 : Int, v8 = some (.int (iI q)) ∧ w8 = [(h0, ob 7 [.int (iI kd), .int (iI w), .ref sm, .ref r, .ref wr, .ref fd, .ref wt, .ref rd, .int (iI f2), .int (iI rp), .int (iI lo)])] ∧ ((q = 1 ∧ 0 ≤ x ∧ x ≤ 4000 ∧ f2 = x) ∨ (q = 0 ∧ (x < 0 ∨ 4000 < x) ∧ f2 = fl))
set_option maxHeartbeats 4000000 in
set_option maxRecDepth 100000 in
theorem c_X7_fill (l : Launch) (g : GG) (h0 : Nat) (kd : Int) (w : Int) (sm : Nat) (r : Nat) (wr : Nat) (fd : Nat) (wt : Nat) (rd : Nat) (fl : Int) (rp : Int) (lo : Int) (x : Int) (hp0 : -2147483648 ≤ x ∧ x < 2147483648) : Ct l g yX7_fill (wM yX7_fill cX7_fill 2 (some .boolean)) (rmD 0 0 0) [.ref h0, .int (iI x)] [(h0, ob 7 [.int (iI kd), .int (iI w), .ref sm, .ref r, .ref wr, .ref fd, .ref wt, .ref rd, .int (iI fl), .int (iI rp), .int (iI lo)])] (po_c_X7_fill g h0 kd w sm r wr fd wt rd fl rp lo x) := by
  refine Ct_of (by decide +kernel) (Nat.le_of_ble_eq_true rfl) ?_
  intro p9 e9 s9 m9 ag9 bl9 mt9 c9 A9 fx hr hnm
  refine v_iload_n fx 1 dX7_fill_0 rfl rfl ?_
  refine v_if_lt fx 11 dX7_fill_1 (by decide) rfl (by omega) (fun h_1 => ?_) (fun h_1 => ?_)
  ·
    refine v_iconst fx dX7_fill_11 rfl ?_
    exact v_zret fx [(h0, ob 7 [.int (iI kd), .int (iI w), .ref sm, .ref r, .ref wr, .ref fd, .ref wt, .ref rd, .int (iI fl), .int (iI rp), .int (iI lo)])] [0] hr dX7_fill_12 (by first | rfl | exact nar_z _ (by omega)) rfl rfl (nl rfl) (nl rfl) ⟨0, fl, rfl, rfl, (by first | omega | rfl | assumption)⟩
  ·
    refine v_iload_n fx 1 dX7_fill_4 rfl rfl ?_
    refine v_sipush fx dX7_fill_5 (by decide +kernel) rfl ?_
    refine v_icmp_le fx 13 dX7_fill_8 (by decide) rfl (by omega) (by omega) (fun h_2 => ?_) (fun h_2 => ?_)
    ·
      refine v_aload_n fx 0 dX7_fill_13 rfl rfl ?_
      refine v_iload_n fx 1 dX7_fill_14 rfl rfl ?_
      refine v_put fx 0 8 [(h0, ob 7 [.int (iI kd), .int (iI w), .ref sm, .ref r, .ref wr, .ref fd, .ref wt, .ref rd, .int (iI x), .int (iI rp), .int (iI lo)])] inX7 tyX7_ok nmX7 k284 dX7_fill_15 rfl rfl (by decide) rfl rfl rfl rfl (nl rfl) rfl rfl ?_
      refine v_iconst fx dX7_fill_18 rfl ?_
      exact v_zret fx [(h0, ob 7 [.int (iI kd), .int (iI w), .ref sm, .ref r, .ref wr, .ref fd, .ref wt, .ref rd, .int (iI x), .int (iI rp), .int (iI lo)])] [0] hr dX7_fill_19 (by first | rfl | exact nar_z _ (by omega)) rfl rfl (nl rfl) (nl rfl) ⟨1, x, rfl, rfl, (by first | omega | rfl | assumption)⟩
    ·
      refine v_iconst fx dX7_fill_11 rfl ?_
      exact v_zret fx [(h0, ob 7 [.int (iI kd), .int (iI w), .ref sm, .ref r, .ref wr, .ref fd, .ref wt, .ref rd, .int (iI fl), .int (iI rp), .int (iI lo)])] [0] hr dX7_fill_12 (by first | rfl | exact nar_z _ (by omega)) rfl rfl (nl rfl) (nl rfl) ⟨0, fl, rfl, rfl, (by first | omega | rfl | assumption)⟩
theorem dX7_repair_0 : decode cX7_repair 0 = .ok (.iload_n 1, 1) := by decide +kernel
theorem dX7_repair_1 : decode cX7_repair 1 = .ok (.ifCond .eq 10, 3) := by decide +kernel
theorem dX7_repair_4 : decode cX7_repair 4 = .ok (.iload_n 1, 1) := by decide +kernel
theorem dX7_repair_5 : decode cX7_repair 5 = .ok (.iconst 1, 1) := by decide +kernel
theorem dX7_repair_6 : decode cX7_repair 6 = .ok (.if_icmp .eq 5, 3) := by decide +kernel
theorem dX7_repair_9 : decode cX7_repair 9 = .ok (.iconst 0, 1) := by decide +kernel
theorem dX7_repair_10 : decode cX7_repair 10 = .ok (.ireturn, 1) := by decide +kernel
theorem dX7_repair_11 : decode cX7_repair 11 = .ok (.aload_n 0, 1) := by decide +kernel
theorem dX7_repair_12 : decode cX7_repair 12 = .ok (.iload_n 1, 1) := by decide +kernel
theorem dX7_repair_13 : decode cX7_repair 13 = .ok (.iconst 1, 1) := by decide +kernel
theorem dX7_repair_14 : decode cX7_repair 14 = .ok (.if_icmp .ne 7, 3) := by decide +kernel
theorem dX7_repair_17 : decode cX7_repair 17 = .ok (.iconst 1, 1) := by decide +kernel
theorem dX7_repair_18 : decode cX7_repair 18 = .ok (.goto 4, 3) := by decide +kernel
theorem dX7_repair_21 : decode cX7_repair 21 = .ok (.iconst 0, 1) := by decide +kernel
theorem dX7_repair_22 : decode cX7_repair 22 = .ok (.putfield 120, 3) := by decide +kernel
theorem dX7_repair_25 : decode cX7_repair 25 = .ok (.iconst 1, 1) := by decide +kernel
theorem dX7_repair_26 : decode cX7_repair 26 = .ok (.ireturn, 1) := by decide +kernel
abbrev po_c_X7_repair (g : GG) (h0 : Nat) (kd : Int) (w : Int) (sm : Nat) (r : Nat) (wr : Nat) (fd : Nat) (wt : Nat) (rd : Nat) (fl : Int) (rp : Int) (lo : Int) (x : Int) : Option Value → va_W → Prop := fun v8 w8 => ∃ q : Int, ∃ r2 : Int, v8 = some (.int (iI q)) ∧ w8 = [(h0, ob 7 [.int (iI kd), .int (iI w), .ref sm, .ref r, .ref wr, .ref fd, .ref wt, .ref rd, .int (iI fl), .int (iI r2), .int (iI lo)])] ∧ ((q = 1 ∧ 0 ≤ x ∧ x ≤ 1 ∧ r2 = x) ∨ (q = 0 ∧ (x < 0 ∨ 1 < x) ∧ r2 = rp))
set_option maxHeartbeats 4000000 in
set_option maxRecDepth 100000 in
theorem c_X7_repair (l : Launch) (g : GG) (h0 : Nat) (kd : Int) (w : Int) (sm : Nat) (r : Nat) (wr : Nat) (fd : Nat) (wt : Nat) (rd : Nat) (fl : Int) (rp : Int) (lo : Int) (x : Int) (hp0 : -2147483648 ≤ x ∧ x < 2147483648) (hp1 : 0 ≤ rp ∧ rp ≤ 1) : Ct l g yX7_repair (wM yX7_repair cX7_repair 2 (some .boolean)) (rmD 0 0 0) [.ref h0, .int (iI x)] [(h0, ob 7 [.int (iI kd), .int (iI w), .ref sm, .ref r, .ref wr, .ref fd, .ref wt, .ref rd, .int (iI fl), .int (iI rp), .int (iI lo)])] (po_c_X7_repair g h0 kd w sm r wr fd wt rd fl rp lo x) := by
  refine Ct_of (by decide +kernel) (Nat.le_of_ble_eq_true rfl) ?_
  intro p9 e9 s9 m9 ag9 bl9 mt9 c9 A9 fx hr hnm
  refine v_iload_n fx 1 dX7_repair_0 rfl rfl ?_
  refine v_if_eq fx 11 dX7_repair_1 (by decide) rfl (by omega) (fun h_1 => ?_) (fun h_1 => ?_)
  ·
    refine v_aload_n fx 0 dX7_repair_11 rfl rfl ?_
    refine v_iload_n fx 1 dX7_repair_12 rfl rfl ?_
    refine v_iconst fx dX7_repair_13 rfl ?_
    refine v_icmp_ne fx 21 dX7_repair_14 (by decide) rfl (by omega) (by omega) (fun h_2 => ?_) (fun h_2 => ?_)
    ·
      refine v_iconst fx dX7_repair_21 rfl ?_
      refine v_put fx 0 9 [(h0, ob 7 [.int (iI kd), .int (iI w), .ref sm, .ref r, .ref wr, .ref fd, .ref wt, .ref rd, .int (iI fl), .int (iI 0), .int (iI lo)])] inX7 tyX7_ok nmX7 k285 dX7_repair_22 rfl rfl (by decide) rfl rfl rfl rfl (nl rfl) rfl rfl ?_
      refine v_iconst fx dX7_repair_25 rfl ?_
      exact v_zret fx [(h0, ob 7 [.int (iI kd), .int (iI w), .ref sm, .ref r, .ref wr, .ref fd, .ref wt, .ref rd, .int (iI fl), .int (iI 0), .int (iI lo)])] [0] hr dX7_repair_26 (by first | rfl | exact nar_z _ (by omega)) rfl rfl (nl rfl) (nl rfl) ⟨1, 0, rfl, rfl, (by first | omega | rfl | assumption)⟩
    ·
      refine v_iconst fx dX7_repair_17 rfl ?_
      refine v_goto fx 22 dX7_repair_18 (by decide) ?_
      refine v_put fx 0 9 [(h0, ob 7 [.int (iI kd), .int (iI w), .ref sm, .ref r, .ref wr, .ref fd, .ref wt, .ref rd, .int (iI fl), .int (iI 1), .int (iI lo)])] inX7 tyX7_ok nmX7 k285 dX7_repair_22 rfl rfl (by decide) rfl rfl rfl rfl (nl rfl) rfl rfl ?_
      refine v_iconst fx dX7_repair_25 rfl ?_
      exact v_zret fx [(h0, ob 7 [.int (iI kd), .int (iI w), .ref sm, .ref r, .ref wr, .ref fd, .ref wt, .ref rd, .int (iI fl), .int (iI 1), .int (iI lo)])] [0] hr dX7_repair_26 (by first | rfl | exact nar_z _ (by omega)) rfl rfl (nl rfl) (nl rfl) ⟨1, 1, rfl, rfl, (by first | omega | rfl | assumption)⟩
  ·
    refine v_iload_n fx 1 dX7_repair_4 rfl rfl ?_
    refine v_iconst fx dX7_repair_5 rfl ?_
    refine v_icmp_eq fx 11 dX7_repair_6 (by decide) rfl (by omega) (by omega) (fun h_3 => ?_) (fun h_3 => ?_)
    ·
      refine v_aload_n fx 0 dX7_repair_11 rfl rfl ?_
      refine v_iload_n fx 1 dX7_repair_12 rfl rfl ?_
      refine v_iconst fx dX7_repair_13 rfl ?_
      refine v_icmp_ne fx 21 dX7_repair_14 (by decide) rfl (by omega) (by omega) (fun h_4 => ?_) (fun h_4 => ?_)
      ·
        refine v_iconst fx dX7_repair_21 rfl ?_
        refine v_put fx 0 9 [(h0, ob 7 [.int (iI kd), .int (iI w), .ref sm, .ref r, .ref wr, .ref fd, .ref wt, .ref rd, .int (iI fl), .int (iI 0), .int (iI lo)])] inX7 tyX7_ok nmX7 k285 dX7_repair_22 rfl rfl (by decide) rfl rfl rfl rfl (nl rfl) rfl rfl ?_
        refine v_iconst fx dX7_repair_25 rfl ?_
        exact v_zret fx [(h0, ob 7 [.int (iI kd), .int (iI w), .ref sm, .ref r, .ref wr, .ref fd, .ref wt, .ref rd, .int (iI fl), .int (iI 0), .int (iI lo)])] [0] hr dX7_repair_26 (by first | rfl | exact nar_z _ (by omega)) rfl rfl (nl rfl) (nl rfl) ⟨1, 0, rfl, rfl, (by first | omega | rfl | assumption)⟩
      ·
        refine v_iconst fx dX7_repair_17 rfl ?_
        refine v_goto fx 22 dX7_repair_18 (by decide) ?_
        refine v_put fx 0 9 [(h0, ob 7 [.int (iI kd), .int (iI w), .ref sm, .ref r, .ref wr, .ref fd, .ref wt, .ref rd, .int (iI fl), .int (iI 1), .int (iI lo)])] inX7 tyX7_ok nmX7 k285 dX7_repair_22 rfl rfl (by decide) rfl rfl rfl rfl (nl rfl) rfl rfl ?_
        refine v_iconst fx dX7_repair_25 rfl ?_
        exact v_zret fx [(h0, ob 7 [.int (iI kd), .int (iI w), .ref sm, .ref r, .ref wr, .ref fd, .ref wt, .ref rd, .int (iI fl), .int (iI 1), .int (iI lo)])] [0] hr dX7_repair_26 (by first | rfl | exact nar_z _ (by omega)) rfl rfl (nl rfl) (nl rfl) ⟨1, 1, rfl, rfl, (by first | omega | rfl | assumption)⟩
    ·
      refine v_iconst fx dX7_repair_9 rfl ?_
      exact v_zret fx [(h0, ob 7 [.int (iI kd), .int (iI w), .ref sm, .ref r, .ref wr, .ref fd, .ref wt, .ref rd, .int (iI fl), .int (iI rp), .int (iI lo)])] [0] hr dX7_repair_10 (by first | rfl | exact nar_z _ (by omega)) rfl rfl (nl rfl) (nl rfl) ⟨0, rp, rfl, rfl, (by first | omega | rfl | assumption)⟩
theorem dX7_order_0 : decode cX7_order 0 = .ok (.aload_n 0, 1) := by decide +kernel
theorem dX7_order_1 : decode cX7_order 1 = .ok (.getfield 155, 3) := by decide +kernel
theorem dX7_order_4 : decode cX7_order 4 = .ok (.iload_n 1, 1) := by decide +kernel
theorem dX7_order_5 : decode cX7_order 5 = .ok (.if_icmp .ne 5, 3) := by decide +kernel
theorem dX7_order_8 : decode cX7_order 8 = .ok (.iconst 0, 1) := by decide +kernel
theorem dX7_order_9 : decode cX7_order 9 = .ok (.ireturn, 1) := by decide +kernel
theorem dX7_order_10 : decode cX7_order 10 = .ok (.aload_n 0, 1) := by decide +kernel
theorem dX7_order_11 : decode cX7_order 11 = .ok (.iload_n 1, 1) := by decide +kernel
theorem dX7_order_12 : decode cX7_order 12 = .ok (.putfield 155, 3) := by decide +kernel
theorem dX7_order_15 : decode cX7_order 15 = .ok (.aload_n 0, 1) := by decide +kernel
theorem dX7_order_16 : decode cX7_order 16 = .ok (.getfield 44, 3) := by decide +kernel
theorem dX7_order_19 : decode cX7_order 19 = .ok (.iload_n 1, 1) := by decide +kernel
theorem dX7_order_20 : decode cX7_order 20 = .ok (.invokevirtual 158, 3) := by decide +kernel
theorem dX7_order_23 : decode cX7_order 23 = .ok (.aload_n 0, 1) := by decide +kernel
theorem dX7_order_24 : decode cX7_order 24 = .ok (.getfield 48, 3) := by decide +kernel
theorem dX7_order_27 : decode cX7_order 27 = .ok (.iload_n 1, 1) := by decide +kernel
theorem dX7_order_28 : decode cX7_order 28 = .ok (.invokevirtual 158, 3) := by decide +kernel
theorem dX7_order_31 : decode cX7_order 31 = .ok (.iconst 1, 1) := by decide +kernel
theorem dX7_order_32 : decode cX7_order 32 = .ok (.ireturn, 1) := by decide +kernel
abbrev po_c_X7_order (g : GG) (h0 : Nat) (kd : Int) (w : Int) (sm : Nat) (r : Nat) (wr : Nat) (fd : Nat) (wt : Nat) (rd : Nat) (fl : Int) (rp : Int) (lo : Int) (wa : Nat) (fa : Nat) (c1 : Int) (c2 : Int) (p1 : Int) (p3 : Int) (tu : Int) (tv : Int) (x : Int) : Option Value → va_W → Prop := fun v8 w8 => ∃ q : Int, ∃ l2 : Int, ∃ t1 : Int, ∃ t2 : Int, v8 = some (.int (iI q)) ∧ w8 = [(h0, ob 7 [.int (iI kd), .int (iI w), .ref sm, .ref r, .ref wr, .ref fd, .ref wt, .ref rd, .int (iI fl), .int (iI rp), .int (iI l2)]), (wr, ob 0 [.ref wa, .int (iI c1), .int (iI p1), .int (iI t1)]), (fd, ob 0 [.ref fa, .int (iI c2), .int (iI p3), .int (iI t2)])] ∧ ((q = 0 ∧ x = lo) ∨ (q = 1 ∧ x ≠ lo)) ∧ (l2 = x) ∧ (0 ≤ t1 ∧ t1 ≤ 7 ∧ 0 ≤ t2 ∧ t2 ≤ 7)
set_option maxHeartbeats 4000000 in
set_option maxRecDepth 100000 in
theorem c_X7_order (l : Launch) (g : GG) (h0 : Nat) (kd : Int) (w : Int) (sm : Nat) (r : Nat) (wr : Nat) (fd : Nat) (wt : Nat) (rd : Nat) (fl : Int) (rp : Int) (lo : Int) (wa : Nat) (fa : Nat) (c1 : Int) (c2 : Int) (p1 : Int) (p3 : Int) (tu : Int) (tv : Int) (x : Int) (hp0 : 0 ≤ x ∧ x ≤ 1) (hp1 : 0 ≤ lo ∧ lo ≤ 1) (hp2 : 0 ≤ tu ∧ tu ≤ 7) (hp3 : 0 ≤ tv ∧ tv ≤ 7) : Ct l g yX7_order (wM yX7_order cX7_order 2 (some .int)) (rmD 1 0 0) [.ref h0, .int (iI x)] [(h0, ob 7 [.int (iI kd), .int (iI w), .ref sm, .ref r, .ref wr, .ref fd, .ref wt, .ref rd, .int (iI fl), .int (iI rp), .int (iI lo)]), (wr, ob 0 [.ref wa, .int (iI c1), .int (iI p1), .int (iI tu)]), (fd, ob 0 [.ref fa, .int (iI c2), .int (iI p3), .int (iI tv)])] (po_c_X7_order g h0 kd w sm r wr fd wt rd fl rp lo wa fa c1 c2 p1 p3 tu tv x) := by
  refine Ct_of (by decide +kernel) (Nat.le_of_ble_eq_true rfl) ?_
  intro p9 e9 s9 m9 ag9 bl9 mt9 c9 A9 fx hr hnm
  refine v_aload_n fx 0 dX7_order_0 rfl rfl ?_
  refine v_get fx 0 10 inX7 k286 dX7_order_1 rfl rfl (by decide) rfl rfl rfl ?_
  refine v_iload_n fx 1 dX7_order_4 rfl rfl ?_
  refine v_icmp_ne fx 10 dX7_order_5 (by decide) rfl (by omega) (by omega) (fun h_1 => ?_) (fun h_1 => ?_)
  ·
    refine v_aload_n fx 0 dX7_order_10 rfl rfl ?_
    refine v_iload_n fx 1 dX7_order_11 rfl rfl ?_
    refine v_put fx 0 10 [(h0, ob 7 [.int (iI kd), .int (iI w), .ref sm, .ref r, .ref wr, .ref fd, .ref wt, .ref rd, .int (iI fl), .int (iI rp), .int (iI x)]), (wr, ob 0 [.ref wa, .int (iI c1), .int (iI p1), .int (iI tu)]), (fd, ob 0 [.ref fa, .int (iI c2), .int (iI p3), .int (iI tv)])] inX7 tyX7_ok nmX7 k286 dX7_order_12 rfl rfl (by decide) rfl rfl (by first | exact nar_z _ (by omega) | simp_all) (by first | exact fit_z _ (by omega) | simp_all) (nl rfl) rfl rfl ?_
    refine v_aload_n fx 0 dX7_order_15 rfl rfl ?_
    refine v_get fx 0 4 inX7 k280 dX7_order_16 rfl rfl (by decide) rfl rfl rfl ?_
    refine v_iload_n fx 1 dX7_order_19 rfl rfl ?_
    refine v_callV (As := [.int (iI x)]) (rest := []) fx [1] [0, 2] [(wr, ob 0 [.ref wa, .int (iI c1), .int (iI p1), .int (iI tu)])] [(h0, ob 7 [.int (iI kd), .int (iI w), .ref sm, .ref r, .ref wr, .ref fd, .ref wt, .ref rd, .int (iI fl), .int (iI rp), .int (iI x)]), (fd, ob 0 [.ref fa, .int (iI c2), .int (iI p3), .int (iI tv)])] 1 0 (c_X0_setLowestFirst l g wr wa c1 p1 tu x (by first | omega | decide | assumption)) dX7_order_20 k954 k955 k956 k50 k957 ykX0_setLowestFirst rfl rfl rfl rfl rfl rfl rfl rfl (nl rfl) ⟨nl rfl, nl rfl⟩ ⟨(nl rfl), (nl rfl)⟩ rfl (fun v9 w9 hu => ?_)
    obtain ⟨t2_2, rfl, rfl, u_3⟩ := hu
    refine v_is (wn := [(h0, ob 7 [.int (iI kd), .int (iI w), .ref sm, .ref r, .ref wr, .ref fd, .ref wt, .ref rd, .int (iI fl), .int (iI rp), .int (iI x)]), (fd, ob 0 [.ref fa, .int (iI c2), .int (iI p3), .int (iI tv)]), (wr, ob 0 [.ref wa, .int (iI c1), .int (iI p1), .int (iI t2_2)])]) (cn := 0) (sn := 0) (sn2 := []) rfl rfl rfl rfl ?_
    refine v_aload_n fx 0 dX7_order_23 rfl rfl ?_
    refine v_get fx 0 5 inX7 k281 dX7_order_24 rfl rfl (by decide) rfl rfl rfl ?_
    refine v_iload_n fx 1 dX7_order_27 rfl rfl ?_
    refine v_callV (As := [.int (iI x)]) (rest := []) fx [1] [0, 2] [(fd, ob 0 [.ref fa, .int (iI c2), .int (iI p3), .int (iI tv)])] [(h0, ob 7 [.int (iI kd), .int (iI w), .ref sm, .ref r, .ref wr, .ref fd, .ref wt, .ref rd, .int (iI fl), .int (iI rp), .int (iI x)]), (wr, ob 0 [.ref wa, .int (iI c1), .int (iI p1), .int (iI t2_2)])] 1 0 (c_X0_setLowestFirst l g fd fa c2 p3 tv x (by first | omega | decide | assumption)) dX7_order_28 k954 k955 k956 k50 k957 ykX0_setLowestFirst rfl rfl rfl rfl rfl rfl rfl rfl (nl rfl) ⟨nl rfl, nl rfl⟩ ⟨(nl rfl), (nl rfl)⟩ rfl (fun v9 w9 hu => ?_)
    obtain ⟨t2_4, rfl, rfl, u_5⟩ := hu
    refine v_is (wn := [(h0, ob 7 [.int (iI kd), .int (iI w), .ref sm, .ref r, .ref wr, .ref fd, .ref wt, .ref rd, .int (iI fl), .int (iI rp), .int (iI x)]), (wr, ob 0 [.ref wa, .int (iI c1), .int (iI p1), .int (iI t2_2)]), (fd, ob 0 [.ref fa, .int (iI c2), .int (iI p3), .int (iI t2_4)])]) (cn := 0) (sn := 0) (sn2 := []) rfl rfl rfl rfl ?_
    refine v_iconst fx dX7_order_31 rfl ?_
    exact v_iret fx [(h0, ob 7 [.int (iI kd), .int (iI w), .ref sm, .ref r, .ref wr, .ref fd, .ref wt, .ref rd, .int (iI fl), .int (iI rp), .int (iI x)]), (wr, ob 0 [.ref wa, .int (iI c1), .int (iI p1), .int (iI t2_2)]), (fd, ob 0 [.ref fa, .int (iI c2), .int (iI p3), .int (iI t2_4)])] [0, 1, 2] hr dX7_order_32 rfl rfl (nl rfl) (nl rfl) ⟨1, x, t2_2, t2_4, rfl, rfl, (by first | omega | rfl | assumption), (by first | omega | rfl | assumption), (by first | omega | rfl | assumption)⟩
  ·
    refine v_iconst fx dX7_order_8 rfl ?_
    exact v_iret fx [(h0, ob 7 [.int (iI kd), .int (iI w), .ref sm, .ref r, .ref wr, .ref fd, .ref wt, .ref rd, .int (iI fl), .int (iI rp), .int (iI lo)]), (wr, ob 0 [.ref wa, .int (iI c1), .int (iI p1), .int (iI tu)]), (fd, ob 0 [.ref fa, .int (iI c2), .int (iI p3), .int (iI tv)])] [0, 1, 2] hr dX7_order_9 rfl rfl (nl rfl) (nl rfl) ⟨0, lo, tu, tv, rfl, rfl, (by first | omega | rfl | assumption), (by first | omega | rfl | assumption), (by first | omega | rfl | assumption)⟩
