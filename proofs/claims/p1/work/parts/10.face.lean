/-! PUBLIC METHODS on a fresh object -/
theorem dX7_put_0 : decode cX7_put 0 = .ok (.iload_n 1, 1) := by decide +kernel
theorem dX7_put_1 : decode cX7_put 1 = .ok (.ifCond .lt 11, 3) := by decide +kernel
theorem dX7_put_4 : decode cX7_put 4 = .ok (.iload_n 1, 1) := by decide +kernel
theorem dX7_put_5 : decode cX7_put 5 = .ok (.aload_n 0, 1) := by decide +kernel
theorem dX7_put_6 : decode cX7_put 6 = .ok (.getfield 22, 3) := by decide +kernel
theorem dX7_put_9 : decode cX7_put 9 = .ok (.if_icmp .lt 5, 3) := by decide +kernel
theorem dX7_put_12 : decode cX7_put 12 = .ok (.iconst 0, 1) := by decide +kernel
theorem dX7_put_13 : decode cX7_put 13 = .ok (.ireturn, 1) := by decide +kernel
theorem dX7_put_14 : decode cX7_put 14 = .ok (.aload_n 0, 1) := by decide +kernel
theorem dX7_put_15 : decode cX7_put 15 = .ok (.getfield 30, 3) := by decide +kernel
theorem dX7_put_18 : decode cX7_put 18 = .ok (.iload_n 1, 1) := by decide +kernel
theorem dX7_put_19 : decode cX7_put 19 = .ok (.iload_n 2, 1) := by decide +kernel
theorem dX7_put_20 : decode cX7_put 20 = .ok (.invokevirtual 69, 3) := by decide +kernel
theorem dX7_put_23 : decode cX7_put 23 = .ok (.iconst 1, 1) := by decide +kernel
theorem dX7_put_24 : decode cX7_put 24 = .ok (.ireturn, 1) := by decide +kernel
abbrev po_c_X7_put (g : GG) (h0 : Nat) (kd : Int) (w : Int) (sm : Nat) (rw : Nat) (wr : Nat) (fd : Nat) (wt : Nat) (rd : Nat) (fi : Int) (rp : Int) (lo : Int) (sa : Nat) (n : Nat) (f : Nat → Int32) (x : Int) (on : Int) : Option Value → va_W → Prop := fun v8 w8 => ∃ r : Int, ∃ f2 : Nat → Int32, v8 = some (.int (iI r)) ∧ w8 = [(h0, ob 7 [.int (iI kd), .int (iI w), .ref sm, .ref rw, .ref wr, .ref fd, .ref wt, .ref rd, .int (iI fi), .int (iI rp), .int (iI lo)]), (sm, ob 4 [.int (iI w), .ref sa]), (sa, aI g n f2)] ∧ ((r = 1 ∧ 0 ≤ x ∧ x < w) ∨ (r = 0 ∧ (x < 0 ∨ w ≤ x)))
set_option maxHeartbeats 4000000 in
set_option maxRecDepth 100000 in
theorem c_X7_put (l : Launch) (g : GG) (h0 : Nat) (kd : Int) (w : Int) (sm : Nat) (rw : Nat) (wr : Nat) (fd : Nat) (wt : Nat) (rd : Nat) (fi : Int) (rp : Int) (lo : Int) (sa : Nat) (n : Nat) (f : Nat → Int32) (x : Int) (on : Int) (hp0 : -2147483648 ≤ x ∧ x < 2147483648) (hp1 : 0 ≤ on ∧ on ≤ 1) (hp2 : 1 ≤ w ∧ w ≤ 3000) (hp3 : n < 1000000) : Ct l g yX7_put (wM yX7_put cX7_put 3 (some .boolean)) (rmD 1 0 0) [.ref h0, .int (iI x), .int (iI on)] [(h0, ob 7 [.int (iI kd), .int (iI w), .ref sm, .ref rw, .ref wr, .ref fd, .ref wt, .ref rd, .int (iI fi), .int (iI rp), .int (iI lo)]), (sm, ob 4 [.int (iI w), .ref sa]), (sa, aI g n f)] (po_c_X7_put g h0 kd w sm rw wr fd wt rd fi rp lo sa n f x on) := by
  refine Ct_of (by decide +kernel) (Nat.le_of_ble_eq_true rfl) ?_
  intro p9 e9 s9 m9 ag9 bl9 mt9 c9 A9 fx hr hnm
  refine v_iload_n fx 1 dX7_put_0 rfl rfl ?_
  refine v_if_lt fx 12 dX7_put_1 (by decide) rfl (by omega) (fun h_1 => ?_) (fun h_1 => ?_)
  ·
    refine v_iconst fx dX7_put_12 rfl ?_
    exact v_zret fx [(h0, ob 7 [.int (iI kd), .int (iI w), .ref sm, .ref rw, .ref wr, .ref fd, .ref wt, .ref rd, .int (iI fi), .int (iI rp), .int (iI lo)]), (sm, ob 4 [.int (iI w), .ref sa]), (sa, aI g n f)] [0, 1, 2] hr dX7_put_13 (by first | rfl | exact nar_z _ (by omega)) rfl rfl (nl rfl) (nl rfl) ⟨0, f, rfl, rfl, (by first | omega | rfl | assumption)⟩
  ·
    refine v_iload_n fx 1 dX7_put_4 rfl rfl ?_
    refine v_aload_n fx 0 dX7_put_5 rfl rfl ?_
    refine v_get fx 0 1 inX7 k277 dX7_put_6 rfl rfl (by decide) rfl rfl rfl ?_
    refine v_icmp_lt fx 14 dX7_put_9 (by decide) rfl (by omega) (by omega) (fun h_2 => ?_) (fun h_2 => ?_)
    ·
      refine v_aload_n fx 0 dX7_put_14 rfl rfl ?_
      refine v_get fx 0 2 inX7 k278 dX7_put_15 rfl rfl (by decide) rfl rfl rfl ?_
      refine v_iload_n fx 1 dX7_put_18 rfl rfl ?_
      refine v_iload_n fx 2 dX7_put_19 rfl rfl ?_
      refine v_callV (As := [.int (iI x), .int (iI on)]) (rest := []) fx [1, 2] [0] [(sm, ob 4 [.int (iI w), .ref sa]), (sa, aI g n f)] [(h0, ob 7 [.int (iI kd), .int (iI w), .ref sm, .ref rw, .ref wr, .ref fd, .ref wt, .ref rd, .int (iI fi), .int (iI rp), .int (iI lo)])] 2 0 (c_X4_set l g sm sa n f (iI w) x on (by first | omega | decide | assumption) (by first | omega | decide | assumption) (by first | omega | decide | assumption)) dX7_put_20 k314 k315 k316 k48 k317 ykX4_set rfl rfl rfl rfl rfl rfl rfl rfl (nl rfl) ⟨nl rfl, nl rfl⟩ ⟨(nl rfl), (nl rfl)⟩ rfl (fun v9 w9 hu => ?_)
      obtain ⟨f2_3, rfl, rfl⟩ := hu
      refine v_is (wn := [(h0, ob 7 [.int (iI kd), .int (iI w), .ref sm, .ref rw, .ref wr, .ref fd, .ref wt, .ref rd, .int (iI fi), .int (iI rp), .int (iI lo)]), (sm, ob 4 [.int (iI w), .ref sa]), (sa, aI g n f2_3)]) (cn := 0) (sn := 0) (sn2 := []) rfl rfl rfl rfl ?_
      refine v_iconst fx dX7_put_23 rfl ?_
      exact v_zret fx [(h0, ob 7 [.int (iI kd), .int (iI w), .ref sm, .ref rw, .ref wr, .ref fd, .ref wt, .ref rd, .int (iI fi), .int (iI rp), .int (iI lo)]), (sm, ob 4 [.int (iI w), .ref sa]), (sa, aI g n f2_3)] [0, 1, 2] hr dX7_put_24 (by first | rfl | exact nar_z _ (by omega)) rfl rfl (nl rfl) (nl rfl) ⟨1, f2_3, rfl, rfl, (by first | omega | rfl | assumption)⟩
    ·
      refine v_iconst fx dX7_put_12 rfl ?_
      exact v_zret fx [(h0, ob 7 [.int (iI kd), .int (iI w), .ref sm, .ref rw, .ref wr, .ref fd, .ref wt, .ref rd, .int (iI fi), .int (iI rp), .int (iI lo)]), (sm, ob 4 [.int (iI w), .ref sa]), (sa, aI g n f)] [0, 1, 2] hr dX7_put_13 (by first | rfl | exact nar_z _ (by omega)) rfl rfl (nl rfl) (nl rfl) ⟨0, f, rfl, rfl, (by first | omega | rfl | assumption)⟩
theorem dX7_endRow_0 : decode cX7_endRow 0 = .ok (.aload_n 0, 1) := by decide +kernel
theorem dX7_endRow_1 : decode cX7_endRow 1 = .ok (.getfield 37, 3) := by decide +kernel
theorem dX7_endRow_4 : decode cX7_endRow 4 = .ok (.invokevirtual 73, 3) := by decide +kernel
theorem dX7_endRow_7 : decode cX7_endRow 7 = .ok (.bipush 24, 2) := by decide +kernel
theorem dX7_endRow_9 : decode cX7_endRow 9 = .ok (.if_icmp .lt 5, 3) := by decide +kernel
theorem dX7_endRow_14 : decode cX7_endRow 14 = .ok (.aload_n 0, 1) := by decide +kernel
theorem dX7_endRow_15 : decode cX7_endRow 15 = .ok (.getfield 30, 3) := by decide +kernel
theorem dX7_endRow_18 : decode cX7_endRow 18 = .ok (.aload_n 0, 1) := by decide +kernel
theorem dX7_endRow_19 : decode cX7_endRow 19 = .ok (.getfield 37, 3) := by decide +kernel
theorem dX7_endRow_22 : decode cX7_endRow 22 = .ok (.invokevirtual 77, 3) := by decide +kernel
theorem dX7_endRow_25 : decode cX7_endRow 25 = .ok (.aload_n 0, 1) := by decide +kernel
theorem dX7_endRow_26 : decode cX7_endRow 26 = .ok (.getfield 37, 3) := by decide +kernel
theorem dX7_endRow_29 : decode cX7_endRow 29 = .ok (.invokevirtual 81, 3) := by decide +kernel
theorem dX7_endRow_32 : decode cX7_endRow 32 = .ok (.aload_n 0, 1) := by decide +kernel
theorem dX7_endRow_33 : decode cX7_endRow 33 = .ok (.getfield 30, 3) := by decide +kernel
theorem dX7_endRow_36 : decode cX7_endRow 36 = .ok (.invokevirtual 84, 3) := by decide +kernel
theorem dX7_endRow_39 : decode cX7_endRow 39 = .ok (.iconst 1, 1) := by decide +kernel
theorem dX7_endRow_40 : decode cX7_endRow 40 = .ok (.ireturn, 1) := by decide +kernel
abbrev po_c_X7_endRow_white (g : GG) (h0 : Nat) (kd : Int) (w : Int) (sm : Nat) (rw : Nat) (wr : Nat) (fd : Nat) (wt : Nat) (rd : Nat) (fi : Int) (rp : Int) (lo : Int) (sa : Nat) (n : Nat) (rs : Nat) (ri : Nat) (f : Nat → Int32) (c : Int) : Option Value → va_W → Prop := fun v8 w8 => ∃ f2 : Nat → Int32, ∃ f3 : Nat → Int32, v8 = some (.int (iI 1)) ∧ w8 = [(h0, ob 7 [.int (iI kd), .int (iI w), .ref sm, .ref rw, .ref wr, .ref fd, .ref wt, .ref rd, .int (iI fi), .int (iI rp), .int (iI lo)]), (sm, ob 4 [.int (iI w), .ref sa]), (sa, aI g n f2), (rw, ob 2 [.ref rs, .ref ri, .int (iI (c + 1))]), (rs, aI g 27 f3)]
set_option maxHeartbeats 4000000 in
set_option maxRecDepth 100000 in
theorem c_X7_endRow_white (l : Launch) (g : GG) (h0 : Nat) (kd : Int) (w : Int) (sm : Nat) (rw : Nat) (wr : Nat) (fd : Nat) (wt : Nat) (rd : Nat) (fi : Int) (rp : Int) (lo : Int) (sa : Nat) (n : Nat) (rs : Nat) (ri : Nat) (f : Nat → Int32) (c : Int) (hp0 : 0 ≤ c ∧ c < 24) (hp1 : n < 1000000) : Ct l g yX7_endRow (wM yX7_endRow cX7_endRow 1 (some .boolean)) (rmD 2 0 0) [.ref h0] [(h0, ob 7 [.int (iI kd), .int (iI w), .ref sm, .ref rw, .ref wr, .ref fd, .ref wt, .ref rd, .int (iI fi), .int (iI rp), .int (iI lo)]), (sm, ob 4 [.int (iI w), .ref sa]), (sa, aI g n (fun _ => 0)), (rw, ob 2 [.ref rs, .ref ri, .int (iI c)]), (rs, aI g 27 f)] (po_c_X7_endRow_white g h0 kd w sm rw wr fd wt rd fi rp lo sa n rs ri f c) := by
  refine Ct_of (by decide +kernel) (Nat.le_of_ble_eq_true rfl) ?_
  intro p9 e9 s9 m9 ag9 bl9 mt9 c9 A9 fx hr hnm
  refine v_aload_n fx 0 dX7_endRow_0 rfl rfl ?_
  refine v_get fx 0 3 inX7 k279 dX7_endRow_1 rfl rfl (by decide) rfl rfl rfl ?_
  refine v_callV (As := []) (rest := []) fx [3] [0, 1, 2, 4] [(rw, ob 2 [.ref rs, .ref ri, .int (iI c)])] [(h0, ob 7 [.int (iI kd), .int (iI w), .ref sm, .ref rw, .ref wr, .ref fd, .ref wt, .ref rd, .int (iI fi), .int (iI rp), .int (iI lo)]), (sm, ob 4 [.int (iI w), .ref sa]), (sa, aI g n (fun _ => 0)), (rs, aI g 27 f)] 0 0 (c_X2_count l g rw rs ri c ) dX7_endRow_4 k322 k323 k324 k49 k325 ykX2_count rfl rfl rfl rfl rfl rfl rfl rfl (nl rfl) ⟨nl rfl, nl rfl⟩ ⟨(nl rfl), (nl rfl)⟩ rfl (fun v9 w9 hu => ?_)
  obtain ⟨rfl, rfl⟩ := hu
  refine v_is (wn := [(h0, ob 7 [.int (iI kd), .int (iI w), .ref sm, .ref rw, .ref wr, .ref fd, .ref wt, .ref rd, .int (iI fi), .int (iI rp), .int (iI lo)]), (sm, ob 4 [.int (iI w), .ref sa]), (sa, aI g n (fun _ => 0)), (rs, aI g 27 f), (rw, ob 2 [.ref rs, .ref ri, .int (iI c)])]) (cn := 0) (sn := 0) (sn2 := [.int (iI c)]) rfl rfl rfl rfl ?_
  refine v_bipush fx dX7_endRow_7 (by decide +kernel) rfl ?_
  refine v_icmp_lt fx 14 dX7_endRow_9 (by decide) rfl (by omega) (by omega) (fun h_1 => ?_) (fun h0 => absurd h0 (by omega))
  refine v_aload_n fx 0 dX7_endRow_14 rfl rfl ?_
  refine v_get fx 0 2 inX7 k278 dX7_endRow_15 rfl rfl (by decide) rfl rfl rfl ?_
  refine v_aload_n fx 0 dX7_endRow_18 rfl rfl ?_
  refine v_get fx 0 3 inX7 k279 dX7_endRow_19 rfl rfl (by decide) rfl rfl rfl ?_
  refine v_callV (As := [.ref rw]) (rest := []) fx [1, 2] [0, 3, 4] [(sm, ob 4 [.int (iI w), .ref sa]), (sa, aI g n (fun _ => 0))] [(h0, ob 7 [.int (iI kd), .int (iI w), .ref sm, .ref rw, .ref wr, .ref fd, .ref wt, .ref rd, .int (iI fi), .int (iI rp), .int (iI lo)]), (rs, aI g 27 f), (rw, ob 2 [.ref rs, .ref ri, .int (iI c)])] 1 0 (c_X4_addChangesTo_white l g sm sa n rw (iI w) (by first | omega | decide | assumption)) dX7_endRow_22 k326 k327 k328 k48 k329 ykX4_addChangesTo rfl rfl rfl rfl rfl rfl rfl rfl (nl rfl) ⟨nl rfl, nl rfl⟩ ⟨(nl rfl), (nl rfl)⟩ rfl (fun v9 w9 hu => ?_)
  obtain ⟨rfl, rfl⟩ := hu
  refine v_is (wn := [(h0, ob 7 [.int (iI kd), .int (iI w), .ref sm, .ref rw, .ref wr, .ref fd, .ref wt, .ref rd, .int (iI fi), .int (iI rp), .int (iI lo)]), (rs, aI g 27 f), (rw, ob 2 [.ref rs, .ref ri, .int (iI c)]), (sm, ob 4 [.int (iI w), .ref sa]), (sa, aI g n (fun _ => 0))]) (cn := 0) (sn := 0) (sn2 := []) rfl rfl rfl rfl ?_
  refine v_aload_n fx 0 dX7_endRow_25 rfl rfl ?_
  refine v_get fx 0 3 inX7 k279 dX7_endRow_26 rfl rfl (by decide) rfl rfl rfl ?_
  refine v_callV (As := []) (rest := []) fx [2, 1] [0, 3, 4] [(rw, ob 2 [.ref rs, .ref ri, .int (iI c)]), (rs, aI g 27 f)] [(h0, ob 7 [.int (iI kd), .int (iI w), .ref sm, .ref rw, .ref wr, .ref fd, .ref wt, .ref rd, .int (iI fi), .int (iI rp), .int (iI lo)]), (sm, ob 4 [.int (iI w), .ref sa]), (sa, aI g n (fun _ => 0))] 0 0 (c_X2_close l g rw rs ri c f (by first | omega | decide | assumption)) dX7_endRow_29 k339 k340 k341 k49 k342 ykX2_close rfl rfl rfl rfl rfl rfl rfl rfl (nl rfl) ⟨nl rfl, nl rfl⟩ ⟨(nl rfl), (nl rfl)⟩ rfl (fun v9 w9 hu => ?_)
  obtain ⟨f2_2, rfl, rfl⟩ := hu
  refine v_is (wn := [(h0, ob 7 [.int (iI kd), .int (iI w), .ref sm, .ref rw, .ref wr, .ref fd, .ref wt, .ref rd, .int (iI fi), .int (iI rp), .int (iI lo)]), (sm, ob 4 [.int (iI w), .ref sa]), (sa, aI g n (fun _ => 0)), (rw, ob 2 [.ref rs, .ref ri, .int (iI (c + 1))]), (rs, aI g 27 f2_2)]) (cn := 0) (sn := 0) (sn2 := []) rfl rfl rfl rfl ?_
  refine v_aload_n fx 0 dX7_endRow_32 rfl rfl ?_
  refine v_get fx 0 2 inX7 k278 dX7_endRow_33 rfl rfl (by decide) rfl rfl rfl ?_
  refine v_callV (As := []) (rest := []) fx [1, 2] [0, 3, 4] [(sm, ob 4 [.int (iI w), .ref sa]), (sa, aI g n (fun _ => 0))] [(h0, ob 7 [.int (iI kd), .int (iI w), .ref sm, .ref rw, .ref wr, .ref fd, .ref wt, .ref rd, .int (iI fi), .int (iI rp), .int (iI lo)]), (rw, ob 2 [.ref rs, .ref ri, .int (iI (c + 1))]), (rs, aI g 27 f2_2)] 0 0 (c_X4_whiten l g sm sa n (fun _ => 0) (iI w) (by first | omega | decide | assumption)) dX7_endRow_36 k347 k348 k349 k48 k350 ykX4_whiten rfl rfl rfl rfl rfl rfl rfl rfl (nl rfl) ⟨nl rfl, nl rfl⟩ ⟨(nl rfl), (nl rfl)⟩ rfl (fun v9 w9 hu => ?_)
  obtain ⟨f2_3, rfl, rfl⟩ := hu
  refine v_is (wn := [(h0, ob 7 [.int (iI kd), .int (iI w), .ref sm, .ref rw, .ref wr, .ref fd, .ref wt, .ref rd, .int (iI fi), .int (iI rp), .int (iI lo)]), (rw, ob 2 [.ref rs, .ref ri, .int (iI (c + 1))]), (rs, aI g 27 f2_2), (sm, ob 4 [.int (iI w), .ref sa]), (sa, aI g n f2_3)]) (cn := 0) (sn := 0) (sn2 := []) rfl rfl rfl rfl ?_
  refine v_iconst fx dX7_endRow_39 rfl ?_
  exact v_zret fx [(h0, ob 7 [.int (iI kd), .int (iI w), .ref sm, .ref rw, .ref wr, .ref fd, .ref wt, .ref rd, .int (iI fi), .int (iI rp), .int (iI lo)]), (sm, ob 4 [.int (iI w), .ref sa]), (sa, aI g n f2_3), (rw, ob 2 [.ref rs, .ref ri, .int (iI (c + 1))]), (rs, aI g 27 f2_2)] [0, 3, 4, 1, 2] hr dX7_endRow_40 (by first | rfl | exact nar_z _ (by omega)) rfl rfl (nl rfl) (nl rfl) ⟨f2_3, f2_2, rfl, rfl⟩
theorem dX6_writeMark_0 : decode cX6_writeMark 0 = .ok (.aload_n 0, 1) := by decide +kernel
theorem dX6_writeMark_1 : decode cX6_writeMark 1 = .ok (.getfield 19, 3) := by decide +kernel
theorem dX6_writeMark_4 : decode cX6_writeMark 4 = .ok (.sipush 4097, 3) := by decide +kernel
theorem dX6_writeMark_7 : decode cX6_writeMark 7 = .ok (.invokevirtual 42, 3) := by decide +kernel
theorem dX6_writeMark_10 : decode cX6_writeMark 10 = .ok (.iload_n 1, 1) := by decide +kernel
theorem dX6_writeMark_11 : decode cX6_writeMark 11 = .ok (.ifCond .eq 19, 3) := by decide +kernel
theorem dX6_writeMark_14 : decode cX6_writeMark 14 = .ok (.aload_n 0, 1) := by decide +kernel
theorem dX6_writeMark_15 : decode cX6_writeMark 15 = .ok (.getfield 19, 3) := by decide +kernel
theorem dX6_writeMark_18 : decode cX6_writeMark 18 = .ok (.iload_n 2, 1) := by decide +kernel
theorem dX6_writeMark_19 : decode cX6_writeMark 19 = .ok (.ifCond .eq 7, 3) := by decide +kernel
theorem dX6_writeMark_22 : decode cX6_writeMark 22 = .ok (.iconst 3, 1) := by decide +kernel
theorem dX6_writeMark_23 : decode cX6_writeMark 23 = .ok (.goto 4, 3) := by decide +kernel
theorem dX6_writeMark_26 : decode cX6_writeMark 26 = .ok (.iconst 2, 1) := by decide +kernel
theorem dX6_writeMark_27 : decode cX6_writeMark 27 = .ok (.invokevirtual 42, 3) := by decide +kernel
theorem dX6_writeMark_30 : decode cX6_writeMark 30 = .ok (.return_, 1) := by decide +kernel
abbrev po_c_X6_writeMark_is (g : GG) (h0 : Nat) (r : Nat) (o : Nat) (td : Nat) (w : Int32) (ba : Nat) (n : Nat) (f : Nat → Int32) (c : Int) (pl : Int32) (tu : Int32) (mx : Int) (od : Int) : Option Value → va_W → Prop := fun v8 w8 => ∃ c2 : Int, ∃ f2 : Nat → Int32, v8 = none ∧ w8 = [(h0, ob 6 [.ref r, .int w, .ref o, .ref td]), (o, ob 0 [.ref ba, .int (iI c2), .int pl, .int tu]), (ba, aB g n f2)] ∧ (c2 = c + 12 + mx)
set_option maxHeartbeats 4000000 in
set_option maxRecDepth 100000 in
theorem c_X6_writeMark_is (l : Launch) (g : GG) (h0 : Nat) (r : Nat) (o : Nat) (td : Nat) (w : Int32) (ba : Nat) (n : Nat) (f : Nat → Int32) (c : Int) (pl : Int32) (tu : Int32) (mx : Int) (od : Int) (hp0 : 0 ≤ c ∧ c < 100000) (hp1 : (c + 40) / 8 ≤ (n : Int)) (hp2 : n < 1000000) (hp3 : 0 ≤ mx ∧ mx ≤ 1) (hp4 : 0 ≤ od ∧ od ≤ 1) : Ct l g yX6_writeMark (wM yX6_writeMark cX6_writeMark 3 none) (rmD 2 0 0) [.ref h0, .int (iI mx), .int (iI od)] [(h0, ob 6 [.ref r, .int w, .ref o, .ref td]), (o, ob 0 [.ref ba, .int (iI c), .int pl, .int tu]), (ba, aB g n f)] (po_c_X6_writeMark_is g h0 r o td w ba n f c pl tu mx od) := by
  refine Ct_of (by decide +kernel) (Nat.le_of_ble_eq_true rfl) ?_
  intro p9 e9 s9 m9 ag9 bl9 mt9 c9 A9 fx hr hnm
  refine v_aload_n fx 0 dX6_writeMark_0 rfl rfl ?_
  refine v_get fx 0 2 inX6 k168 dX6_writeMark_1 rfl rfl (by decide) rfl rfl rfl ?_
  refine v_sipush fx dX6_writeMark_4 (by decide +kernel) rfl ?_
  refine v_callV (As := [.int (iI 4097)]) (rest := []) fx [1, 2] [0] [(o, ob 0 [.ref ba, .int (iI c), .int pl, .int tu]), (ba, aB g n f)] [(h0, ob 6 [.ref r, .int w, .ref o, .ref td])] 1 0 (c_X0_addCode_is l g o ba n f c pl tu 4097 12 (by first | omega | decide | assumption) (by first | omega | decide | assumption) (by first | omega | decide | assumption) (by decide) (by decide) (by decide)) dX6_writeMark_7 k703 k704 k705 k50 k706 ykX0_addCode rfl rfl rfl rfl rfl rfl rfl rfl (nl rfl) ⟨nl rfl, nl rfl⟩ ⟨(nl rfl), (nl rfl)⟩ rfl (fun v9 w9 hu => ?_)
  obtain ⟨c2_1, f2_2, rfl, rfl, u_3⟩ := hu
  refine v_is (wn := [(h0, ob 6 [.ref r, .int w, .ref o, .ref td]), (o, ob 0 [.ref ba, .int (iI c2_1), .int pl, .int tu]), (ba, aB g n f2_2)]) (cn := 0) (sn := 0) (sn2 := []) rfl rfl rfl rfl ?_
  refine v_iload_n fx 1 dX6_writeMark_10 rfl rfl ?_
  refine v_if_eq fx 30 dX6_writeMark_11 (by decide) rfl (by omega) (fun h_4 => ?_) (fun h_4 => ?_)
  ·
    exact v_vret fx [(h0, ob 6 [.ref r, .int w, .ref o, .ref td]), (o, ob 0 [.ref ba, .int (iI c2_1), .int pl, .int tu]), (ba, aB g n f2_2)] [0, 1, 2] hr dX6_writeMark_30 rfl rfl (nl rfl) (nl rfl) ⟨c2_1, f2_2, rfl, rfl, (by first | omega | rfl | assumption)⟩
  ·
    refine v_aload_n fx 0 dX6_writeMark_14 rfl rfl ?_
    refine v_get fx 0 2 inX6 k168 dX6_writeMark_15 rfl rfl (by decide) rfl rfl rfl ?_
    refine v_iload_n fx 2 dX6_writeMark_18 rfl rfl ?_
    refine v_if_eq fx 26 dX6_writeMark_19 (by decide) rfl (by omega) (fun h_5 => ?_) (fun h_5 => ?_)
    ·
      refine v_iconst fx dX6_writeMark_26 rfl ?_
      refine v_callV (As := [.int (iI 2)]) (rest := []) fx [1, 2] [0] [(o, ob 0 [.ref ba, .int (iI c2_1), .int pl, .int tu]), (ba, aB g n f2_2)] [(h0, ob 6 [.ref r, .int w, .ref o, .ref td])] 1 0 (c_X0_addCode_is l g o ba n f2_2 c2_1 pl tu 2 1 (by first | omega | decide | assumption) (by first | omega | decide | assumption) (by first | omega | decide | assumption) (by decide) (by decide) (by decide)) dX6_writeMark_27 k703 k704 k705 k50 k706 ykX0_addCode rfl rfl rfl rfl rfl rfl rfl rfl (nl rfl) ⟨nl rfl, nl rfl⟩ ⟨(nl rfl), (nl rfl)⟩ rfl (fun v9 w9 hu => ?_)
      obtain ⟨c2_6, f2_7, rfl, rfl, u_8⟩ := hu
      refine v_is (wn := [(h0, ob 6 [.ref r, .int w, .ref o, .ref td]), (o, ob 0 [.ref ba, .int (iI c2_6), .int pl, .int tu]), (ba, aB g n f2_7)]) (cn := 0) (sn := 0) (sn2 := []) rfl rfl rfl rfl ?_
      exact v_vret fx [(h0, ob 6 [.ref r, .int w, .ref o, .ref td]), (o, ob 0 [.ref ba, .int (iI c2_6), .int pl, .int tu]), (ba, aB g n f2_7)] [0, 1, 2] hr dX6_writeMark_30 rfl rfl (nl rfl) (nl rfl) ⟨c2_6, f2_7, rfl, rfl, (by first | omega | rfl | assumption)⟩
    ·
      refine v_iconst fx dX6_writeMark_22 rfl ?_
      refine v_goto fx 27 dX6_writeMark_23 (by decide) ?_
      refine v_callV (As := [.int (iI 3)]) (rest := []) fx [1, 2] [0] [(o, ob 0 [.ref ba, .int (iI c2_1), .int pl, .int tu]), (ba, aB g n f2_2)] [(h0, ob 6 [.ref r, .int w, .ref o, .ref td])] 1 0 (c_X0_addCode_is l g o ba n f2_2 c2_1 pl tu 3 1 (by first | omega | decide | assumption) (by first | omega | decide | assumption) (by first | omega | decide | assumption) (by decide) (by decide) (by decide)) dX6_writeMark_27 k703 k704 k705 k50 k706 ykX0_addCode rfl rfl rfl rfl rfl rfl rfl rfl (nl rfl) ⟨nl rfl, nl rfl⟩ ⟨(nl rfl), (nl rfl)⟩ rfl (fun v9 w9 hu => ?_)
      obtain ⟨c2_9, f2_10, rfl, rfl, u_11⟩ := hu
      refine v_is (wn := [(h0, ob 6 [.ref r, .int w, .ref o, .ref td]), (o, ob 0 [.ref ba, .int (iI c2_9), .int pl, .int tu]), (ba, aB g n f2_10)]) (cn := 0) (sn := 0) (sn2 := []) rfl rfl rfl rfl ?_
      exact v_vret fx [(h0, ob 6 [.ref r, .int w, .ref o, .ref td]), (o, ob 0 [.ref ba, .int (iI c2_9), .int pl, .int tu]), (ba, aB g n f2_10)] [0, 1, 2] hr dX6_writeMark_30 rfl rfl (nl rfl) (nl rfl) ⟨c2_9, f2_10, rfl, rfl, (by first | omega | rfl | assumption)⟩
theorem dX6_writeUnmarked_0 : decode cX6_writeUnmarked 0 = .ok (.iconst 0, 1) := by decide +kernel
theorem dX6_writeUnmarked_1 : decode cX6_writeUnmarked 1 = .ok (.istore_n 1, 1) := by decide +kernel
theorem dX6_writeUnmarked_2 : decode cX6_writeUnmarked 2 = .ok (.iload_n 1, 1) := by decide +kernel
theorem dX6_writeUnmarked_3 : decode cX6_writeUnmarked 3 = .ok (.aload_n 0, 1) := by decide +kernel
theorem dX6_writeUnmarked_4 : decode cX6_writeUnmarked 4 = .ok (.getfield 9, 3) := by decide +kernel
theorem dX6_writeUnmarked_7 : decode cX6_writeUnmarked 7 = .ok (.invokevirtual 32, 3) := by decide +kernel
theorem dX6_writeUnmarked_10 : decode cX6_writeUnmarked 10 = .ok (.if_icmp .ge 14, 3) := by decide +kernel
theorem dX6_writeUnmarked_24 : decode cX6_writeUnmarked 24 = .ok (.iconst 0, 1) := by decide +kernel
theorem dX6_writeUnmarked_25 : decode cX6_writeUnmarked 25 = .ok (.istore_n 1, 1) := by decide +kernel
theorem dX6_writeUnmarked_26 : decode cX6_writeUnmarked 26 = .ok (.iload_n 1, 1) := by decide +kernel
theorem dX6_writeUnmarked_27 : decode cX6_writeUnmarked 27 = .ok (.iconst 2, 1) := by decide +kernel
theorem dX6_writeUnmarked_28 : decode cX6_writeUnmarked 28 = .ok (.if_icmp .ge 19, 3) := by decide +kernel
theorem dX6_writeUnmarked_31 : decode cX6_writeUnmarked 31 = .ok (.aload_n 0, 1) := by decide +kernel
theorem dX6_writeUnmarked_32 : decode cX6_writeUnmarked 32 = .ok (.getfield 19, 3) := by decide +kernel
theorem dX6_writeUnmarked_35 : decode cX6_writeUnmarked 35 = .ok (.sipush 4097, 3) := by decide +kernel
theorem dX6_writeUnmarked_38 : decode cX6_writeUnmarked 38 = .ok (.invokevirtual 42, 3) := by decide +kernel
theorem dX6_writeUnmarked_41 : decode cX6_writeUnmarked 41 = .ok (.iinc 1 1, 3) := by decide +kernel
theorem dX6_writeUnmarked_44 : decode cX6_writeUnmarked 44 = .ok (.goto (-18), 3) := by decide +kernel
theorem dX6_writeUnmarked_47 : decode cX6_writeUnmarked 47 = .ok (.return_, 1) := by decide +kernel
abbrev po_c_X6_writeUnmarked_0 (g : GG) (h0 : Nat) (r : Nat) (o : Nat) (td : Nat) (w : Int32) (ba : Nat) (n : Nat) (f : Nat → Int32) (c : Int) (pl : Int32) (tu : Int32) (rs : Nat) (ri : Nat) : Option Value → va_W → Prop := fun v8 w8 => ∃ c2 : Int, ∃ f2 : Nat → Int32, v8 = none ∧ w8 = [(h0, ob 6 [.ref r, .int w, .ref o, .ref td]), (o, ob 0 [.ref ba, .int (iI c2), .int pl, .int tu]), (ba, aB g n f2), (r, ob 2 [.ref rs, .ref ri, .int (iI 0)])] ∧ (c2 = 24)
set_option maxHeartbeats 4000000 in
set_option maxRecDepth 100000 in
theorem c_X6_writeUnmarked_0 (l : Launch) (g : GG) (h0 : Nat) (r : Nat) (o : Nat) (td : Nat) (w : Int32) (ba : Nat) (n : Nat) (f : Nat → Int32) (c : Int) (pl : Int32) (tu : Int32) (rs : Nat) (ri : Nat) (hp0 : c = 0) (hp1 : 20 ≤ n ∧ n < 1000000) : Ct l g yX6_writeUnmarked (wM yX6_writeUnmarked cX6_writeUnmarked 2 none) (rmD 3 0 0) [.ref h0] [(h0, ob 6 [.ref r, .int w, .ref o, .ref td]), (o, ob 0 [.ref ba, .int (iI c), .int pl, .int tu]), (ba, aB g n f), (r, ob 2 [.ref rs, .ref ri, .int (iI 0)])] (po_c_X6_writeUnmarked_0 g h0 r o td w ba n f c pl tu rs ri) := by
  refine Ct_of (by decide +kernel) (Nat.le_of_ble_eq_true rfl) ?_
  intro p9 e9 s9 m9 ag9 bl9 mt9 c9 A9 fx hr hnm
  refine v_iconst fx dX6_writeUnmarked_0 rfl ?_
  refine v_istore_n fx [(1, .int (iI 0)), (0, .ref h0)] dX6_writeUnmarked_1 (by decide) rfl rfl ?_
  refine v_iload_n fx 0 dX6_writeUnmarked_2 rfl rfl ?_
  refine v_aload_n fx 1 dX6_writeUnmarked_3 rfl rfl ?_
  refine v_get fx 0 0 inX6 k166 dX6_writeUnmarked_4 rfl rfl (by decide) rfl rfl rfl ?_
  refine v_callV (As := []) (rest := [.int (iI 0)]) fx [3] [0, 1, 2] [(r, ob 2 [.ref rs, .ref ri, .int (iI 0)])] [(h0, ob 6 [.ref r, .int w, .ref o, .ref td]), (o, ob 0 [.ref ba, .int (iI c), .int pl, .int tu]), (ba, aB g n f)] 0 0 (c_X2_count l g r rs ri 0 ) dX6_writeUnmarked_7 k672 k323 k324 k49 k325 ykX2_count rfl rfl rfl rfl rfl rfl rfl rfl (nl rfl) ⟨nl rfl, nl rfl⟩ ⟨(nl rfl), (nl rfl)⟩ rfl (fun v9 w9 hu => ?_)
  obtain ⟨rfl, rfl⟩ := hu
  refine v_is (wn := [(h0, ob 6 [.ref r, .int w, .ref o, .ref td]), (o, ob 0 [.ref ba, .int (iI c), .int pl, .int tu]), (ba, aB g n f), (r, ob 2 [.ref rs, .ref ri, .int (iI 0)])]) (cn := 0) (sn := 0) (sn2 := [.int (iI 0), .int (iI 0)]) rfl rfl rfl rfl ?_
  refine v_icmp_ge fx 24 dX6_writeUnmarked_10 (by decide) rfl (by omega) (by omega) (fun h_1 => ?_) (fun h0 => absurd h0 (by omega))
  refine v_iconst fx dX6_writeUnmarked_24 rfl ?_
  refine v_istore_n fx [(1, .int (iI 0)), (0, .ref h0)] dX6_writeUnmarked_25 (by decide) rfl rfl ?_
  refine v_iload_n fx 0 dX6_writeUnmarked_26 rfl rfl ?_
  refine v_iconst fx dX6_writeUnmarked_27 rfl ?_
  refine v_icmp_ge fx 47 dX6_writeUnmarked_28 (by decide) rfl (by omega) (by omega) (fun h0 => absurd h0 (by omega)) (fun h_2 => ?_)
  refine v_aload_n fx 1 dX6_writeUnmarked_31 rfl rfl ?_
  refine v_get fx 0 2 inX6 k168 dX6_writeUnmarked_32 rfl rfl (by decide) rfl rfl rfl ?_
  refine v_sipush fx dX6_writeUnmarked_35 (by decide +kernel) rfl ?_
  refine v_callV (As := [.int (iI 4097)]) (rest := []) fx [1, 2] [0, 3] [(o, ob 0 [.ref ba, .int (iI c), .int pl, .int tu]), (ba, aB g n f)] [(h0, ob 6 [.ref r, .int w, .ref o, .ref td]), (r, ob 2 [.ref rs, .ref ri, .int (iI 0)])] 1 0 (c_X0_addCode_is l g o ba n f c pl tu 4097 12 (by first | omega | decide | assumption) (by first | omega | decide | assumption) (by first | omega | decide | assumption) (by decide) (by decide) (by decide)) dX6_writeUnmarked_38 k703 k704 k705 k50 k706 ykX0_addCode rfl rfl rfl rfl rfl rfl rfl rfl (nl rfl) ⟨nl rfl, nl rfl⟩ ⟨(nl rfl), (nl rfl)⟩ rfl (fun v9 w9 hu => ?_)
  obtain ⟨c2_3, f2_4, rfl, rfl, u_5⟩ := hu
  refine v_is (wn := [(h0, ob 6 [.ref r, .int w, .ref o, .ref td]), (r, ob 2 [.ref rs, .ref ri, .int (iI 0)]), (o, ob 0 [.ref ba, .int (iI c2_3), .int pl, .int tu]), (ba, aB g n f2_4)]) (cn := 0) (sn := 0) (sn2 := []) rfl rfl rfl rfl ?_
  refine v_iinc fx 0 (1) [(1, .int (iI 1)), (0, .ref h0)] dX6_writeUnmarked_41 rfl (by omega) (by decide) rfl rfl ?_
  refine v_goto fx 26 dX6_writeUnmarked_44 (by decide) ?_
  refine v_iload_n fx 0 dX6_writeUnmarked_26 rfl rfl ?_
  refine v_iconst fx dX6_writeUnmarked_27 rfl ?_
  refine v_icmp_ge fx 47 dX6_writeUnmarked_28 (by decide) rfl (by omega) (by omega) (fun h0 => absurd h0 (by omega)) (fun h_6 => ?_)
  refine v_aload_n fx 1 dX6_writeUnmarked_31 rfl rfl ?_
  refine v_get fx 0 2 inX6 k168 dX6_writeUnmarked_32 rfl rfl (by decide) rfl rfl rfl ?_
  refine v_sipush fx dX6_writeUnmarked_35 (by decide +kernel) rfl ?_
  refine v_callV (As := [.int (iI 4097)]) (rest := []) fx [2, 3] [0, 1] [(o, ob 0 [.ref ba, .int (iI c2_3), .int pl, .int tu]), (ba, aB g n f2_4)] [(h0, ob 6 [.ref r, .int w, .ref o, .ref td]), (r, ob 2 [.ref rs, .ref ri, .int (iI 0)])] 1 0 (c_X0_addCode_is l g o ba n f2_4 c2_3 pl tu 4097 12 (by first | omega | decide | assumption) (by first | omega | decide | assumption) (by first | omega | decide | assumption) (by decide) (by decide) (by decide)) dX6_writeUnmarked_38 k703 k704 k705 k50 k706 ykX0_addCode rfl rfl rfl rfl rfl rfl rfl rfl (nl rfl) ⟨nl rfl, nl rfl⟩ ⟨(nl rfl), (nl rfl)⟩ rfl (fun v9 w9 hu => ?_)
  obtain ⟨c2_7, f2_8, rfl, rfl, u_9⟩ := hu
  refine v_is (wn := [(h0, ob 6 [.ref r, .int w, .ref o, .ref td]), (r, ob 2 [.ref rs, .ref ri, .int (iI 0)]), (o, ob 0 [.ref ba, .int (iI c2_7), .int pl, .int tu]), (ba, aB g n f2_8)]) (cn := 0) (sn := 0) (sn2 := []) rfl rfl rfl rfl ?_
  refine v_iinc fx 0 (2) [(1, .int (iI 2)), (0, .ref h0)] dX6_writeUnmarked_41 rfl (by omega) (by decide) rfl rfl ?_
  refine v_goto fx 26 dX6_writeUnmarked_44 (by decide) ?_
  refine v_iload_n fx 0 dX6_writeUnmarked_26 rfl rfl ?_
  refine v_iconst fx dX6_writeUnmarked_27 rfl ?_
  refine v_icmp_ge fx 47 dX6_writeUnmarked_28 (by decide) rfl (by omega) (by omega) (fun h_10 => ?_) (fun h0 => absurd h0 (by omega))
  exact v_vret fx [(h0, ob 6 [.ref r, .int w, .ref o, .ref td]), (o, ob 0 [.ref ba, .int (iI c2_7), .int pl, .int tu]), (ba, aB g n f2_8), (r, ob 2 [.ref rs, .ref ri, .int (iI 0)])] [0, 2, 3, 1] hr dX6_writeUnmarked_47 rfl rfl (nl rfl) (nl rfl) ⟨c2_7, f2_8, rfl, rfl, (by first | omega | rfl | assumption)⟩
theorem dX6_writeMarked_0 : decode cX6_writeMarked 0 = .ok (.iconst 0, 1) := by decide +kernel
theorem dX6_writeMarked_1 : decode cX6_writeMarked 1 = .ok (.istore_n 3, 1) := by decide +kernel
theorem dX6_writeMarked_2 : decode cX6_writeMarked 2 = .ok (.iload_n 3, 1) := by decide +kernel
theorem dX6_writeMarked_3 : decode cX6_writeMarked 3 = .ok (.aload_n 0, 1) := by decide +kernel
theorem dX6_writeMarked_4 : decode cX6_writeMarked 4 = .ok (.getfield 9, 3) := by decide +kernel
theorem dX6_writeMarked_7 : decode cX6_writeMarked 7 = .ok (.invokevirtual 32, 3) := by decide +kernel
theorem dX6_writeMarked_10 : decode cX6_writeMarked 10 = .ok (.if_icmp .ge 83, 3) := by decide +kernel
theorem dX6_writeMarked_93 : decode cX6_writeMarked 93 = .ok (.iconst 0, 1) := by decide +kernel
theorem dX6_writeMarked_94 : decode cX6_writeMarked 94 = .ok (.istore_n 3, 1) := by decide +kernel
theorem dX6_writeMarked_95 : decode cX6_writeMarked 95 = .ok (.iload_n 3, 1) := by decide +kernel
theorem dX6_writeMarked_96 : decode cX6_writeMarked 96 = .ok (.bipush 6, 2) := by decide +kernel
theorem dX6_writeMarked_98 : decode cX6_writeMarked 98 = .ok (.if_icmp .ge 15, 3) := by decide +kernel
theorem dX6_writeMarked_101 : decode cX6_writeMarked 101 = .ok (.aload_n 0, 1) := by decide +kernel
theorem dX6_writeMarked_102 : decode cX6_writeMarked 102 = .ok (.iload_n 1, 1) := by decide +kernel
theorem dX6_writeMarked_103 : decode cX6_writeMarked 103 = .ok (.iconst 1, 1) := by decide +kernel
theorem dX6_writeMarked_104 : decode cX6_writeMarked 104 = .ok (.invokevirtual 47, 3) := by decide +kernel
theorem dX6_writeMarked_107 : decode cX6_writeMarked 107 = .ok (.iinc 3 1, 3) := by decide +kernel
theorem dX6_writeMarked_110 : decode cX6_writeMarked 110 = .ok (.goto (-15), 3) := by decide +kernel
theorem dX6_writeMarked_113 : decode cX6_writeMarked 113 = .ok (.return_, 1) := by decide +kernel
abbrev po_c_X6_writeMarked_0 (g : GG) (h0 : Nat) (r : Nat) (o : Nat) (td : Nat) (w : Int32) (ba : Nat) (n : Nat) (f : Nat → Int32) (c : Int) (pl : Int32) (tu : Int32) (rs : Nat) (ri : Nat) (mx : Int) (fi : Int) : Option Value → va_W → Prop := fun v8 w8 => ∃ c2 : Int, ∃ f2 : Nat → Int32, v8 = none ∧ w8 = [(h0, ob 6 [.ref r, .int w, .ref o, .ref td]), (o, ob 0 [.ref ba, .int (iI c2), .int pl, .int tu]), (ba, aB g n f2), (r, ob 2 [.ref rs, .ref ri, .int (iI 0)])] ∧ (c2 = 72 + 6 * mx)
set_option maxHeartbeats 4000000 in
set_option maxRecDepth 100000 in
theorem c_X6_writeMarked_0 (l : Launch) (g : GG) (h0 : Nat) (r : Nat) (o : Nat) (td : Nat) (w : Int32) (ba : Nat) (n : Nat) (f : Nat → Int32) (c : Int) (pl : Int32) (tu : Int32) (rs : Nat) (ri : Nat) (mx : Int) (fi : Int) (hp0 : c = 0) (hp1 : 20 ≤ n ∧ n < 1000000) (hp2 : 0 ≤ mx ∧ mx ≤ 1) : Ct l g yX6_writeMarked (wM yX6_writeMarked cX6_writeMarked 6 none) (rmD 3 0 0) [.ref h0, .int (iI mx), .int (iI fi)] [(h0, ob 6 [.ref r, .int w, .ref o, .ref td]), (o, ob 0 [.ref ba, .int (iI c), .int pl, .int tu]), (ba, aB g n f), (r, ob 2 [.ref rs, .ref ri, .int (iI 0)])] (po_c_X6_writeMarked_0 g h0 r o td w ba n f c pl tu rs ri mx fi) := by
  refine Ct_of (by decide +kernel) (Nat.le_of_ble_eq_true rfl) ?_
  intro p9 e9 s9 m9 ag9 bl9 mt9 c9 A9 fx hr hnm
  refine v_iconst fx dX6_writeMarked_0 rfl ?_
  refine v_istore_n fx [(3, .int (iI 0)), (0, .ref h0), (1, .int (iI mx)), (2, .int (iI fi))] dX6_writeMarked_1 (by decide) rfl rfl ?_
  refine v_iload_n fx 0 dX6_writeMarked_2 rfl rfl ?_
  refine v_aload_n fx 1 dX6_writeMarked_3 rfl rfl ?_
  refine v_get fx 0 0 inX6 k166 dX6_writeMarked_4 rfl rfl (by decide) rfl rfl rfl ?_
  refine v_callV (As := []) (rest := [.int (iI 0)]) fx [3] [0, 1, 2] [(r, ob 2 [.ref rs, .ref ri, .int (iI 0)])] [(h0, ob 6 [.ref r, .int w, .ref o, .ref td]), (o, ob 0 [.ref ba, .int (iI c), .int pl, .int tu]), (ba, aB g n f)] 0 0 (c_X2_count l g r rs ri 0 ) dX6_writeMarked_7 k672 k323 k324 k49 k325 ykX2_count rfl rfl rfl rfl rfl rfl rfl rfl (nl rfl) ⟨nl rfl, nl rfl⟩ ⟨(nl rfl), (nl rfl)⟩ rfl (fun v9 w9 hu => ?_)
  obtain ⟨rfl, rfl⟩ := hu
  refine v_is (wn := [(h0, ob 6 [.ref r, .int w, .ref o, .ref td]), (o, ob 0 [.ref ba, .int (iI c), .int pl, .int tu]), (ba, aB g n f), (r, ob 2 [.ref rs, .ref ri, .int (iI 0)])]) (cn := 0) (sn := 0) (sn2 := [.int (iI 0), .int (iI 0)]) rfl rfl rfl rfl ?_
  refine v_icmp_ge fx 93 dX6_writeMarked_10 (by decide) rfl (by omega) (by omega) (fun h_1 => ?_) (fun h0 => absurd h0 (by omega))
  refine v_iconst fx dX6_writeMarked_93 rfl ?_
  refine v_istore_n fx [(3, .int (iI 0)), (0, .ref h0), (1, .int (iI mx)), (2, .int (iI fi))] dX6_writeMarked_94 (by decide) rfl rfl ?_
  refine v_iload_n fx 0 dX6_writeMarked_95 rfl rfl ?_
  refine v_bipush fx dX6_writeMarked_96 (by decide +kernel) rfl ?_
  refine v_icmp_ge fx 113 dX6_writeMarked_98 (by decide) rfl (by omega) (by omega) (fun h0 => absurd h0 (by omega)) (fun h_2 => ?_)
  refine v_aload_n fx 1 dX6_writeMarked_101 rfl rfl ?_
  refine v_iload_n fx 2 dX6_writeMarked_102 rfl rfl ?_
  refine v_iconst fx dX6_writeMarked_103 rfl ?_
  refine v_callV (As := [.int (iI mx), .int (iI 1)]) (rest := []) fx [0, 1, 2] [3] [(h0, ob 6 [.ref r, .int w, .ref o, .ref td]), (o, ob 0 [.ref ba, .int (iI c), .int pl, .int tu]), (ba, aB g n f)] [(r, ob 2 [.ref rs, .ref ri, .int (iI 0)])] 2 0 (c_X6_writeMark_is l g h0 r o td w ba n f c pl tu mx 1 (by first | omega | decide | assumption) (by first | omega | decide | assumption) (by first | omega | decide | assumption) (by first | omega | decide | assumption) (by first | omega | decide | assumption)) dX6_writeMarked_104 k751 k753 k11 k51 k754 ykX6_writeMark rfl rfl rfl rfl rfl rfl rfl rfl (nl rfl) ⟨nl rfl, nl rfl⟩ ⟨(nl rfl), (nl rfl)⟩ rfl (fun v9 w9 hu => ?_)
  obtain ⟨c2_3, f2_4, rfl, rfl, u_5⟩ := hu
  refine v_is (wn := [(r, ob 2 [.ref rs, .ref ri, .int (iI 0)]), (h0, ob 6 [.ref r, .int w, .ref o, .ref td]), (o, ob 0 [.ref ba, .int (iI c2_3), .int pl, .int tu]), (ba, aB g n f2_4)]) (cn := 0) (sn := 0) (sn2 := []) rfl rfl rfl rfl ?_
  refine v_iinc fx 0 (1) [(3, .int (iI 1)), (0, .ref h0), (1, .int (iI mx)), (2, .int (iI fi))] dX6_writeMarked_107 rfl (by omega) (by decide) rfl rfl ?_
  refine v_goto fx 95 dX6_writeMarked_110 (by decide) ?_
  refine v_iload_n fx 0 dX6_writeMarked_95 rfl rfl ?_
  refine v_bipush fx dX6_writeMarked_96 (by decide +kernel) rfl ?_
  refine v_icmp_ge fx 113 dX6_writeMarked_98 (by decide) rfl (by omega) (by omega) (fun h0 => absurd h0 (by omega)) (fun h_6 => ?_)
  refine v_aload_n fx 1 dX6_writeMarked_101 rfl rfl ?_
  refine v_iload_n fx 2 dX6_writeMarked_102 rfl rfl ?_
  refine v_iconst fx dX6_writeMarked_103 rfl ?_
  refine v_callV (As := [.int (iI mx), .int (iI 1)]) (rest := []) fx [1, 2, 3] [0] [(h0, ob 6 [.ref r, .int w, .ref o, .ref td]), (o, ob 0 [.ref ba, .int (iI c2_3), .int pl, .int tu]), (ba, aB g n f2_4)] [(r, ob 2 [.ref rs, .ref ri, .int (iI 0)])] 2 0 (c_X6_writeMark_is l g h0 r o td w ba n f2_4 c2_3 pl tu mx 1 (by first | omega | decide | assumption) (by first | omega | decide | assumption) (by first | omega | decide | assumption) (by first | omega | decide | assumption) (by first | omega | decide | assumption)) dX6_writeMarked_104 k751 k753 k11 k51 k754 ykX6_writeMark rfl rfl rfl rfl rfl rfl rfl rfl (nl rfl) ⟨nl rfl, nl rfl⟩ ⟨(nl rfl), (nl rfl)⟩ rfl (fun v9 w9 hu => ?_)
  obtain ⟨c2_7, f2_8, rfl, rfl, u_9⟩ := hu
  refine v_is (wn := [(r, ob 2 [.ref rs, .ref ri, .int (iI 0)]), (h0, ob 6 [.ref r, .int w, .ref o, .ref td]), (o, ob 0 [.ref ba, .int (iI c2_7), .int pl, .int tu]), (ba, aB g n f2_8)]) (cn := 0) (sn := 0) (sn2 := []) rfl rfl rfl rfl ?_
  refine v_iinc fx 0 (2) [(3, .int (iI 2)), (0, .ref h0), (1, .int (iI mx)), (2, .int (iI fi))] dX6_writeMarked_107 rfl (by omega) (by decide) rfl rfl ?_
  refine v_goto fx 95 dX6_writeMarked_110 (by decide) ?_
  refine v_iload_n fx 0 dX6_writeMarked_95 rfl rfl ?_
  refine v_bipush fx dX6_writeMarked_96 (by decide +kernel) rfl ?_
  refine v_icmp_ge fx 113 dX6_writeMarked_98 (by decide) rfl (by omega) (by omega) (fun h0 => absurd h0 (by omega)) (fun h_10 => ?_)
  refine v_aload_n fx 1 dX6_writeMarked_101 rfl rfl ?_
  refine v_iload_n fx 2 dX6_writeMarked_102 rfl rfl ?_
  refine v_iconst fx dX6_writeMarked_103 rfl ?_
  refine v_callV (As := [.int (iI mx), .int (iI 1)]) (rest := []) fx [1, 2, 3] [0] [(h0, ob 6 [.ref r, .int w, .ref o, .ref td]), (o, ob 0 [.ref ba, .int (iI c2_7), .int pl, .int tu]), (ba, aB g n f2_8)] [(r, ob 2 [.ref rs, .ref ri, .int (iI 0)])] 2 0 (c_X6_writeMark_is l g h0 r o td w ba n f2_8 c2_7 pl tu mx 1 (by first | omega | decide | assumption) (by first | omega | decide | assumption) (by first | omega | decide | assumption) (by first | omega | decide | assumption) (by first | omega | decide | assumption)) dX6_writeMarked_104 k751 k753 k11 k51 k754 ykX6_writeMark rfl rfl rfl rfl rfl rfl rfl rfl (nl rfl) ⟨nl rfl, nl rfl⟩ ⟨(nl rfl), (nl rfl)⟩ rfl (fun v9 w9 hu => ?_)
  obtain ⟨c2_11, f2_12, rfl, rfl, u_13⟩ := hu
  refine v_is (wn := [(r, ob 2 [.ref rs, .ref ri, .int (iI 0)]), (h0, ob 6 [.ref r, .int w, .ref o, .ref td]), (o, ob 0 [.ref ba, .int (iI c2_11), .int pl, .int tu]), (ba, aB g n f2_12)]) (cn := 0) (sn := 0) (sn2 := []) rfl rfl rfl rfl ?_
  refine v_iinc fx 0 (3) [(3, .int (iI 3)), (0, .ref h0), (1, .int (iI mx)), (2, .int (iI fi))] dX6_writeMarked_107 rfl (by omega) (by decide) rfl rfl ?_
  refine v_goto fx 95 dX6_writeMarked_110 (by decide) ?_
  refine v_iload_n fx 0 dX6_writeMarked_95 rfl rfl ?_
  refine v_bipush fx dX6_writeMarked_96 (by decide +kernel) rfl ?_
  refine v_icmp_ge fx 113 dX6_writeMarked_98 (by decide) rfl (by omega) (by omega) (fun h0 => absurd h0 (by omega)) (fun h_14 => ?_)
  refine v_aload_n fx 1 dX6_writeMarked_101 rfl rfl ?_
  refine v_iload_n fx 2 dX6_writeMarked_102 rfl rfl ?_
  refine v_iconst fx dX6_writeMarked_103 rfl ?_
  refine v_callV (As := [.int (iI mx), .int (iI 1)]) (rest := []) fx [1, 2, 3] [0] [(h0, ob 6 [.ref r, .int w, .ref o, .ref td]), (o, ob 0 [.ref ba, .int (iI c2_11), .int pl, .int tu]), (ba, aB g n f2_12)] [(r, ob 2 [.ref rs, .ref ri, .int (iI 0)])] 2 0 (c_X6_writeMark_is l g h0 r o td w ba n f2_12 c2_11 pl tu mx 1 (by first | omega | decide | assumption) (by first | omega | decide | assumption) (by first | omega | decide | assumption) (by first | omega | decide | assumption) (by first | omega | decide | assumption)) dX6_writeMarked_104 k751 k753 k11 k51 k754 ykX6_writeMark rfl rfl rfl rfl rfl rfl rfl rfl (nl rfl) ⟨nl rfl, nl rfl⟩ ⟨(nl rfl), (nl rfl)⟩ rfl (fun v9 w9 hu => ?_)
  obtain ⟨c2_15, f2_16, rfl, rfl, u_17⟩ := hu
  refine v_is (wn := [(r, ob 2 [.ref rs, .ref ri, .int (iI 0)]), (h0, ob 6 [.ref r, .int w, .ref o, .ref td]), (o, ob 0 [.ref ba, .int (iI c2_15), .int pl, .int tu]), (ba, aB g n f2_16)]) (cn := 0) (sn := 0) (sn2 := []) rfl rfl rfl rfl ?_
  refine v_iinc fx 0 (4) [(3, .int (iI 4)), (0, .ref h0), (1, .int (iI mx)), (2, .int (iI fi))] dX6_writeMarked_107 rfl (by omega) (by decide) rfl rfl ?_
  refine v_goto fx 95 dX6_writeMarked_110 (by decide) ?_
  refine v_iload_n fx 0 dX6_writeMarked_95 rfl rfl ?_
  refine v_bipush fx dX6_writeMarked_96 (by decide +kernel) rfl ?_
  refine v_icmp_ge fx 113 dX6_writeMarked_98 (by decide) rfl (by omega) (by omega) (fun h0 => absurd h0 (by omega)) (fun h_18 => ?_)
  refine v_aload_n fx 1 dX6_writeMarked_101 rfl rfl ?_
  refine v_iload_n fx 2 dX6_writeMarked_102 rfl rfl ?_
  refine v_iconst fx dX6_writeMarked_103 rfl ?_
  refine v_callV (As := [.int (iI mx), .int (iI 1)]) (rest := []) fx [1, 2, 3] [0] [(h0, ob 6 [.ref r, .int w, .ref o, .ref td]), (o, ob 0 [.ref ba, .int (iI c2_15), .int pl, .int tu]), (ba, aB g n f2_16)] [(r, ob 2 [.ref rs, .ref ri, .int (iI 0)])] 2 0 (c_X6_writeMark_is l g h0 r o td w ba n f2_16 c2_15 pl tu mx 1 (by first | omega | decide | assumption) (by first | omega | decide | assumption) (by first | omega | decide | assumption) (by first | omega | decide | assumption) (by first | omega | decide | assumption)) dX6_writeMarked_104 k751 k753 k11 k51 k754 ykX6_writeMark rfl rfl rfl rfl rfl rfl rfl rfl (nl rfl) ⟨nl rfl, nl rfl⟩ ⟨(nl rfl), (nl rfl)⟩ rfl (fun v9 w9 hu => ?_)
  obtain ⟨c2_19, f2_20, rfl, rfl, u_21⟩ := hu
  refine v_is (wn := [(r, ob 2 [.ref rs, .ref ri, .int (iI 0)]), (h0, ob 6 [.ref r, .int w, .ref o, .ref td]), (o, ob 0 [.ref ba, .int (iI c2_19), .int pl, .int tu]), (ba, aB g n f2_20)]) (cn := 0) (sn := 0) (sn2 := []) rfl rfl rfl rfl ?_
  refine v_iinc fx 0 (5) [(3, .int (iI 5)), (0, .ref h0), (1, .int (iI mx)), (2, .int (iI fi))] dX6_writeMarked_107 rfl (by omega) (by decide) rfl rfl ?_
  refine v_goto fx 95 dX6_writeMarked_110 (by decide) ?_
  refine v_iload_n fx 0 dX6_writeMarked_95 rfl rfl ?_
  refine v_bipush fx dX6_writeMarked_96 (by decide +kernel) rfl ?_
  refine v_icmp_ge fx 113 dX6_writeMarked_98 (by decide) rfl (by omega) (by omega) (fun h0 => absurd h0 (by omega)) (fun h_22 => ?_)
  refine v_aload_n fx 1 dX6_writeMarked_101 rfl rfl ?_
  refine v_iload_n fx 2 dX6_writeMarked_102 rfl rfl ?_
  refine v_iconst fx dX6_writeMarked_103 rfl ?_
  refine v_callV (As := [.int (iI mx), .int (iI 1)]) (rest := []) fx [1, 2, 3] [0] [(h0, ob 6 [.ref r, .int w, .ref o, .ref td]), (o, ob 0 [.ref ba, .int (iI c2_19), .int pl, .int tu]), (ba, aB g n f2_20)] [(r, ob 2 [.ref rs, .ref ri, .int (iI 0)])] 2 0 (c_X6_writeMark_is l g h0 r o td w ba n f2_20 c2_19 pl tu mx 1 (by first | omega | decide | assumption) (by first | omega | decide | assumption) (by first | omega | decide | assumption) (by first | omega | decide | assumption) (by first | omega | decide | assumption)) dX6_writeMarked_104 k751 k753 k11 k51 k754 ykX6_writeMark rfl rfl rfl rfl rfl rfl rfl rfl (nl rfl) ⟨nl rfl, nl rfl⟩ ⟨(nl rfl), (nl rfl)⟩ rfl (fun v9 w9 hu => ?_)
  obtain ⟨c2_23, f2_24, rfl, rfl, u_25⟩ := hu
  refine v_is (wn := [(r, ob 2 [.ref rs, .ref ri, .int (iI 0)]), (h0, ob 6 [.ref r, .int w, .ref o, .ref td]), (o, ob 0 [.ref ba, .int (iI c2_23), .int pl, .int tu]), (ba, aB g n f2_24)]) (cn := 0) (sn := 0) (sn2 := []) rfl rfl rfl rfl ?_
  refine v_iinc fx 0 (6) [(3, .int (iI 6)), (0, .ref h0), (1, .int (iI mx)), (2, .int (iI fi))] dX6_writeMarked_107 rfl (by omega) (by decide) rfl rfl ?_
  refine v_goto fx 95 dX6_writeMarked_110 (by decide) ?_
  refine v_iload_n fx 0 dX6_writeMarked_95 rfl rfl ?_
  refine v_bipush fx dX6_writeMarked_96 (by decide +kernel) rfl ?_
  refine v_icmp_ge fx 113 dX6_writeMarked_98 (by decide) rfl (by omega) (by omega) (fun h_26 => ?_) (fun h0 => absurd h0 (by omega))
  exact v_vret fx [(h0, ob 6 [.ref r, .int w, .ref o, .ref td]), (o, ob 0 [.ref ba, .int (iI c2_23), .int pl, .int tu]), (ba, aB g n f2_24), (r, ob 2 [.ref rs, .ref ri, .int (iI 0)])] [1, 2, 3, 0] hr dX6_writeMarked_113 rfl rfl (nl rfl) (nl rfl) ⟨c2_23, f2_24, rfl, rfl, (by first | omega | rfl | assumption)⟩
theorem dX7_encode_0 : decode cX7_encode 0 = .ok (.aload_n 0, 1) := by decide +kernel
theorem dX7_encode_1 : decode cX7_encode 1 = .ok (.getfield 44, 3) := by decide +kernel
theorem dX7_encode_4 : decode cX7_encode 4 = .ok (.invokevirtual 87, 3) := by decide +kernel
theorem dX7_encode_7 : decode cX7_encode 7 = .ok (.aload_n 0, 1) := by decide +kernel
theorem dX7_encode_8 : decode cX7_encode 8 = .ok (.getfield 18, 3) := by decide +kernel
theorem dX7_encode_11 : decode cX7_encode 11 = .ok (.iconst 2, 1) := by decide +kernel
theorem dX7_encode_12 : decode cX7_encode 12 = .ok (.if_icmp .ne 13, 3) := by decide +kernel
theorem dX7_encode_15 : decode cX7_encode 15 = .ok (.aload_n 0, 1) := by decide +kernel
theorem dX7_encode_16 : decode cX7_encode 16 = .ok (.getfield 56, 3) := by decide +kernel
theorem dX7_encode_19 : decode cX7_encode 19 = .ok (.invokevirtual 90, 3) := by decide +kernel
theorem dX7_encode_22 : decode cX7_encode 22 = .ok (.goto 27, 3) := by decide +kernel
theorem dX7_encode_25 : decode cX7_encode 25 = .ok (.aload_n 0, 1) := by decide +kernel
theorem dX7_encode_26 : decode cX7_encode 26 = .ok (.getfield 56, 3) := by decide +kernel
theorem dX7_encode_29 : decode cX7_encode 29 = .ok (.aload_n 0, 1) := by decide +kernel
theorem dX7_encode_30 : decode cX7_encode 30 = .ok (.getfield 18, 3) := by decide +kernel
theorem dX7_encode_33 : decode cX7_encode 33 = .ok (.iconst 1, 1) := by decide +kernel
theorem dX7_encode_34 : decode cX7_encode 34 = .ok (.if_icmp .ne 7, 3) := by decide +kernel
theorem dX7_encode_37 : decode cX7_encode 37 = .ok (.iconst 1, 1) := by decide +kernel
theorem dX7_encode_38 : decode cX7_encode 38 = .ok (.goto 4, 3) := by decide +kernel
theorem dX7_encode_41 : decode cX7_encode 41 = .ok (.iconst 0, 1) := by decide +kernel
theorem dX7_encode_42 : decode cX7_encode 42 = .ok (.aload_n 0, 1) := by decide +kernel
theorem dX7_encode_43 : decode cX7_encode 43 = .ok (.getfield 93, 3) := by decide +kernel
theorem dX7_encode_46 : decode cX7_encode 46 = .ok (.invokevirtual 96, 3) := by decide +kernel
theorem dX7_encode_49 : decode cX7_encode 49 = .ok (.aload_n 0, 1) := by decide +kernel
theorem dX7_encode_50 : decode cX7_encode 50 = .ok (.getfield 44, 3) := by decide +kernel
theorem dX7_encode_53 : decode cX7_encode 53 = .ok (.invokevirtual 100, 3) := by decide +kernel
theorem dX7_encode_56 : decode cX7_encode 56 = .ok (.aload_n 0, 1) := by decide +kernel
theorem dX7_encode_57 : decode cX7_encode 57 = .ok (.getfield 44, 3) := by decide +kernel
theorem dX7_encode_60 : decode cX7_encode 60 = .ok (.invokevirtual 103, 3) := by decide +kernel
theorem dX7_encode_63 : decode cX7_encode 63 = .ok (.ireturn, 1) := by decide +kernel
abbrev po_c_X7_encode_0 (g : GG) (h0 : Nat) (kd : Int) (w : Int) (sm : Nat) (rw : Nat) (wr : Nat) (fd : Nat) (wt : Nat) (rd : Nat) (fi : Int) (rp : Int) (lo : Int) (wd : Nat) (rs : Nat) (ri : Nat) (wa : Nat) (n : Nat) (f : Nat → Int32) (pl : Int32) (tu : Int32) : Option Value → va_W → Prop := fun v8 w8 => ∃ r : Int, ∃ c2 : Int, ∃ f2 : Nat → Int32, v8 = some (.int (iI r)) ∧ w8 = [(h0, ob 7 [.int (iI kd), .int (iI w), .ref sm, .ref rw, .ref wr, .ref fd, .ref wt, .ref rd, .int (iI fi), .int (iI rp), .int (iI lo)]), (wt, ob 6 [.ref rw, .int (iI w), .ref wr, .ref wd]), (rw, ob 2 [.ref rs, .ref ri, .int (iI 0)]), (wr, ob 0 [.ref wa, .int (iI c2), .int (iI 0), .int tu]), (wa, aB g n f2)] ∧ ((kd = 0 ∧ r = 9) ∨ (kd = 1 ∧ r = 10) ∨ (kd = 2 ∧ r = 3))
set_option maxHeartbeats 4000000 in
set_option maxRecDepth 100000 in
theorem c_X7_encode_0 (l : Launch) (g : GG) (h0 : Nat) (kd : Int) (w : Int) (sm : Nat) (rw : Nat) (wr : Nat) (fd : Nat) (wt : Nat) (rd : Nat) (fi : Int) (rp : Int) (lo : Int) (wd : Nat) (rs : Nat) (ri : Nat) (wa : Nat) (n : Nat) (f : Nat → Int32) (pl : Int32) (tu : Int32) (hp0 : 0 ≤ kd ∧ kd ≤ 2) (hp1 : 20 ≤ n ∧ n < 1000000) : Ct l g yX7_encode (wM yX7_encode cX7_encode 1 (some .int)) (rmD 4 0 0) [.ref h0] [(h0, ob 7 [.int (iI kd), .int (iI w), .ref sm, .ref rw, .ref wr, .ref fd, .ref wt, .ref rd, .int (iI fi), .int (iI rp), .int (iI lo)]), (wt, ob 6 [.ref rw, .int (iI w), .ref wr, .ref wd]), (rw, ob 2 [.ref rs, .ref ri, .int (iI 0)]), (wr, ob 0 [.ref wa, .int (iI 0), .int pl, .int tu]), (wa, aB g n f)] (po_c_X7_encode_0 g h0 kd w sm rw wr fd wt rd fi rp lo wd rs ri wa n f pl tu) := by
  refine Ct_of (by decide +kernel) (Nat.le_of_ble_eq_true rfl) ?_
  intro p9 e9 s9 m9 ag9 bl9 mt9 c9 A9 fx hr hnm
  refine v_aload_n fx 0 dX7_encode_0 rfl rfl ?_
  refine v_get fx 0 4 inX7 k280 dX7_encode_1 rfl rfl (by decide) rfl rfl rfl ?_
  refine v_callV (As := []) (rest := []) fx [3, 4] [0, 1, 2] [(wr, ob 0 [.ref wa, .int (iI 0), .int pl, .int tu]), (wa, aB g n f)] [(h0, ob 7 [.int (iI kd), .int (iI w), .ref sm, .ref rw, .ref wr, .ref fd, .ref wt, .ref rd, .int (iI fi), .int (iI rp), .int (iI lo)]), (wt, ob 6 [.ref rw, .int (iI w), .ref wr, .ref wd]), (rw, ob 2 [.ref rs, .ref ri, .int (iI 0)])] 0 0 (c_X0_removeAll l g wr wa n f 0 pl tu (by first | omega | decide | assumption) (by first | omega | decide | assumption) (by first | omega | decide | assumption)) dX7_encode_4 k358 k359 k360 k50 k361 ykX0_removeAll rfl rfl rfl rfl rfl rfl rfl rfl (nl rfl) ⟨nl rfl, nl rfl⟩ ⟨(nl rfl), (nl rfl)⟩ rfl (fun v9 w9 hu => ?_)
  obtain ⟨f2_1, rfl, rfl⟩ := hu
  refine v_is (wn := [(h0, ob 7 [.int (iI kd), .int (iI w), .ref sm, .ref rw, .ref wr, .ref fd, .ref wt, .ref rd, .int (iI fi), .int (iI rp), .int (iI lo)]), (wt, ob 6 [.ref rw, .int (iI w), .ref wr, .ref wd]), (rw, ob 2 [.ref rs, .ref ri, .int (iI 0)]), (wr, ob 0 [.ref wa, .int (iI 0), .int (iI 0), .int tu]), (wa, aB g n f2_1)]) (cn := 0) (sn := 0) (sn2 := []) rfl rfl rfl rfl ?_
  refine v_aload_n fx 0 dX7_encode_7 rfl rfl ?_
  refine v_get fx 0 0 inX7 k276 dX7_encode_8 rfl rfl (by decide) rfl rfl rfl ?_
  refine v_iconst fx dX7_encode_11 rfl ?_
  refine v_icmp_ne fx 25 dX7_encode_12 (by decide) rfl (by omega) (by omega) (fun h_2 => ?_) (fun h_2 => ?_)
  ·
    refine v_aload_n fx 0 dX7_encode_25 rfl rfl ?_
    refine v_get fx 0 6 inX7 k282 dX7_encode_26 rfl rfl (by decide) rfl rfl rfl ?_
    refine v_aload_n fx 0 dX7_encode_29 rfl rfl ?_
    refine v_get fx 0 0 inX7 k276 dX7_encode_30 rfl rfl (by decide) rfl rfl rfl ?_
    refine v_iconst fx dX7_encode_33 rfl ?_
    refine v_icmp_ne fx 41 dX7_encode_34 (by decide) rfl (by omega) (by omega) (fun h_3 => ?_) (fun h_3 => ?_)
    ·
      refine v_iconst fx dX7_encode_41 rfl ?_
      refine v_aload_n fx 0 dX7_encode_42 rfl rfl ?_
      refine v_get fx 0 8 inX7 k284 dX7_encode_43 rfl rfl (by decide) rfl rfl rfl ?_
      refine v_callV (As := [.int (iI 0), .int (iI fi)]) (rest := []) fx [1, 3, 4, 2] [0] [(wt, ob 6 [.ref rw, .int (iI w), .ref wr, .ref wd]), (wr, ob 0 [.ref wa, .int (iI 0), .int (iI 0), .int tu]), (wa, aB g n f2_1), (rw, ob 2 [.ref rs, .ref ri, .int (iI 0)])] [(h0, ob 7 [.int (iI kd), .int (iI w), .ref sm, .ref rw, .ref wr, .ref fd, .ref wt, .ref rd, .int (iI fi), .int (iI rp), .int (iI lo)])] 2 0 (c_X6_writeMarked_0 l g wt rw wr wd (iI w) wa n f2_1 0 (iI 0) tu rs ri 0 fi (by first | omega | decide | assumption) (by first | omega | decide | assumption) (by first | omega | decide | assumption)) dX7_encode_46 k747 k748 k749 k51 k750 ykX6_writeMarked rfl rfl rfl rfl rfl rfl rfl rfl (nl rfl) ⟨nl rfl, nl rfl⟩ ⟨(nl rfl), (nl rfl)⟩ rfl (fun v9 w9 hu => ?_)
      obtain ⟨c2_4, f2_5, rfl, rfl, u_6⟩ := hu
      refine v_is (wn := [(h0, ob 7 [.int (iI kd), .int (iI w), .ref sm, .ref rw, .ref wr, .ref fd, .ref wt, .ref rd, .int (iI fi), .int (iI rp), .int (iI lo)]), (wt, ob 6 [.ref rw, .int (iI w), .ref wr, .ref wd]), (wr, ob 0 [.ref wa, .int (iI c2_4), .int (iI 0), .int tu]), (wa, aB g n f2_5), (rw, ob 2 [.ref rs, .ref ri, .int (iI 0)])]) (cn := 0) (sn := 0) (sn2 := []) rfl rfl rfl rfl ?_
      refine v_aload_n fx 0 dX7_encode_49 rfl rfl ?_
      refine v_get fx 0 4 inX7 k280 dX7_encode_50 rfl rfl (by decide) rfl rfl rfl ?_
      refine v_callV (As := []) (rest := []) fx [2] [0, 1, 3, 4] [(wr, ob 0 [.ref wa, .int (iI c2_4), .int (iI 0), .int tu])] [(h0, ob 7 [.int (iI kd), .int (iI w), .ref sm, .ref rw, .ref wr, .ref fd, .ref wt, .ref rd, .int (iI fi), .int (iI rp), .int (iI lo)]), (wt, ob 6 [.ref rw, .int (iI w), .ref wr, .ref wd]), (wa, aB g n f2_5), (rw, ob 2 [.ref rs, .ref ri, .int (iI 0)])] 0 0 (c_X0_fillLastByte l g wr wa c2_4 (iI 0) tu (by first | omega | decide | assumption)) dX7_encode_53 k769 k770 k771 k50 k772 ykX0_fillLastByte rfl rfl rfl rfl rfl rfl rfl rfl (nl rfl) ⟨nl rfl, nl rfl⟩ ⟨(nl rfl), (nl rfl)⟩ rfl (fun v9 w9 hu => ?_)
      obtain ⟨rfl, rfl⟩ := hu
      refine v_is (wn := [(h0, ob 7 [.int (iI kd), .int (iI w), .ref sm, .ref rw, .ref wr, .ref fd, .ref wt, .ref rd, .int (iI fi), .int (iI rp), .int (iI lo)]), (wt, ob 6 [.ref rw, .int (iI w), .ref wr, .ref wd]), (wa, aB g n f2_5), (rw, ob 2 [.ref rs, .ref ri, .int (iI 0)]), (wr, ob 0 [.ref wa, .int (iI (8 * ((c2_4 + 7) / 8))), .int (iI 0), .int tu])]) (cn := 0) (sn := 0) (sn2 := []) rfl rfl rfl rfl ?_
      refine v_aload_n fx 0 dX7_encode_56 rfl rfl ?_
      refine v_get fx 0 4 inX7 k280 dX7_encode_57 rfl rfl (by decide) rfl rfl rfl ?_
      refine v_callV (As := []) (rest := []) fx [4] [0, 1, 2, 3] [(wr, ob 0 [.ref wa, .int (iI (8 * ((c2_4 + 7) / 8))), .int (iI 0), .int tu])] [(h0, ob 7 [.int (iI kd), .int (iI w), .ref sm, .ref rw, .ref wr, .ref fd, .ref wt, .ref rd, .int (iI fi), .int (iI rp), .int (iI lo)]), (wt, ob 6 [.ref rw, .int (iI w), .ref wr, .ref wd]), (wa, aB g n f2_5), (rw, ob 2 [.ref rs, .ref ri, .int (iI 0)])] 0 0 (c_X0_byteCount l g wr wa (8 * ((c2_4 + 7) / 8)) (iI 0) tu (by first | omega | decide | assumption)) dX7_encode_60 k773 k363 k364 k50 k365 ykX0_byteCount rfl rfl rfl rfl rfl rfl rfl rfl (nl rfl) ⟨nl rfl, nl rfl⟩ ⟨(nl rfl), (nl rfl)⟩ rfl (fun v9 w9 hu => ?_)
      obtain ⟨rfl, rfl⟩ := hu
      refine v_is (wn := [(h0, ob 7 [.int (iI kd), .int (iI w), .ref sm, .ref rw, .ref wr, .ref fd, .ref wt, .ref rd, .int (iI fi), .int (iI rp), .int (iI lo)]), (wt, ob 6 [.ref rw, .int (iI w), .ref wr, .ref wd]), (wa, aB g n f2_5), (rw, ob 2 [.ref rs, .ref ri, .int (iI 0)]), (wr, ob 0 [.ref wa, .int (iI (8 * ((c2_4 + 7) / 8))), .int (iI 0), .int tu])]) (cn := 0) (sn := 0) (sn2 := [.int (iI (((8 * ((c2_4 + 7) / 8)) + 7) / 8))]) rfl rfl rfl rfl ?_
      exact v_iret fx [(h0, ob 7 [.int (iI kd), .int (iI w), .ref sm, .ref rw, .ref wr, .ref fd, .ref wt, .ref rd, .int (iI fi), .int (iI rp), .int (iI lo)]), (wt, ob 6 [.ref rw, .int (iI w), .ref wr, .ref wd]), (rw, ob 2 [.ref rs, .ref ri, .int (iI 0)]), (wr, ob 0 [.ref wa, .int (iI (8 * ((c2_4 + 7) / 8))), .int (iI 0), .int tu]), (wa, aB g n f2_5)] [0, 1, 3, 4, 2] hr dX7_encode_63 rfl rfl (nl rfl) (nl rfl) ⟨(((8 * ((c2_4 + 7) / 8)) + 7) / 8), (8 * ((c2_4 + 7) / 8)), f2_5, rfl, rfl, (by first | omega | rfl | assumption)⟩
    ·
      refine v_iconst fx dX7_encode_37 rfl ?_
      refine v_goto fx 42 dX7_encode_38 (by decide) ?_
      refine v_aload_n fx 0 dX7_encode_42 rfl rfl ?_
      refine v_get fx 0 8 inX7 k284 dX7_encode_43 rfl rfl (by decide) rfl rfl rfl ?_
      refine v_callV (As := [.int (iI 1), .int (iI fi)]) (rest := []) fx [1, 3, 4, 2] [0] [(wt, ob 6 [.ref rw, .int (iI w), .ref wr, .ref wd]), (wr, ob 0 [.ref wa, .int (iI 0), .int (iI 0), .int tu]), (wa, aB g n f2_1), (rw, ob 2 [.ref rs, .ref ri, .int (iI 0)])] [(h0, ob 7 [.int (iI kd), .int (iI w), .ref sm, .ref rw, .ref wr, .ref fd, .ref wt, .ref rd, .int (iI fi), .int (iI rp), .int (iI lo)])] 2 0 (c_X6_writeMarked_0 l g wt rw wr wd (iI w) wa n f2_1 0 (iI 0) tu rs ri 1 fi (by first | omega | decide | assumption) (by first | omega | decide | assumption) (by first | omega | decide | assumption)) dX7_encode_46 k747 k748 k749 k51 k750 ykX6_writeMarked rfl rfl rfl rfl rfl rfl rfl rfl (nl rfl) ⟨nl rfl, nl rfl⟩ ⟨(nl rfl), (nl rfl)⟩ rfl (fun v9 w9 hu => ?_)
      obtain ⟨c2_7, f2_8, rfl, rfl, u_9⟩ := hu
      refine v_is (wn := [(h0, ob 7 [.int (iI kd), .int (iI w), .ref sm, .ref rw, .ref wr, .ref fd, .ref wt, .ref rd, .int (iI fi), .int (iI rp), .int (iI lo)]), (wt, ob 6 [.ref rw, .int (iI w), .ref wr, .ref wd]), (wr, ob 0 [.ref wa, .int (iI c2_7), .int (iI 0), .int tu]), (wa, aB g n f2_8), (rw, ob 2 [.ref rs, .ref ri, .int (iI 0)])]) (cn := 0) (sn := 0) (sn2 := []) rfl rfl rfl rfl ?_
      refine v_aload_n fx 0 dX7_encode_49 rfl rfl ?_
      refine v_get fx 0 4 inX7 k280 dX7_encode_50 rfl rfl (by decide) rfl rfl rfl ?_
      refine v_callV (As := []) (rest := []) fx [2] [0, 1, 3, 4] [(wr, ob 0 [.ref wa, .int (iI c2_7), .int (iI 0), .int tu])] [(h0, ob 7 [.int (iI kd), .int (iI w), .ref sm, .ref rw, .ref wr, .ref fd, .ref wt, .ref rd, .int (iI fi), .int (iI rp), .int (iI lo)]), (wt, ob 6 [.ref rw, .int (iI w), .ref wr, .ref wd]), (wa, aB g n f2_8), (rw, ob 2 [.ref rs, .ref ri, .int (iI 0)])] 0 0 (c_X0_fillLastByte l g wr wa c2_7 (iI 0) tu (by first | omega | decide | assumption)) dX7_encode_53 k769 k770 k771 k50 k772 ykX0_fillLastByte rfl rfl rfl rfl rfl rfl rfl rfl (nl rfl) ⟨nl rfl, nl rfl⟩ ⟨(nl rfl), (nl rfl)⟩ rfl (fun v9 w9 hu => ?_)
      obtain ⟨rfl, rfl⟩ := hu
      refine v_is (wn := [(h0, ob 7 [.int (iI kd), .int (iI w), .ref sm, .ref rw, .ref wr, .ref fd, .ref wt, .ref rd, .int (iI fi), .int (iI rp), .int (iI lo)]), (wt, ob 6 [.ref rw, .int (iI w), .ref wr, .ref wd]), (wa, aB g n f2_8), (rw, ob 2 [.ref rs, .ref ri, .int (iI 0)]), (wr, ob 0 [.ref wa, .int (iI (8 * ((c2_7 + 7) / 8))), .int (iI 0), .int tu])]) (cn := 0) (sn := 0) (sn2 := []) rfl rfl rfl rfl ?_
      refine v_aload_n fx 0 dX7_encode_56 rfl rfl ?_
      refine v_get fx 0 4 inX7 k280 dX7_encode_57 rfl rfl (by decide) rfl rfl rfl ?_
      refine v_callV (As := []) (rest := []) fx [4] [0, 1, 2, 3] [(wr, ob 0 [.ref wa, .int (iI (8 * ((c2_7 + 7) / 8))), .int (iI 0), .int tu])] [(h0, ob 7 [.int (iI kd), .int (iI w), .ref sm, .ref rw, .ref wr, .ref fd, .ref wt, .ref rd, .int (iI fi), .int (iI rp), .int (iI lo)]), (wt, ob 6 [.ref rw, .int (iI w), .ref wr, .ref wd]), (wa, aB g n f2_8), (rw, ob 2 [.ref rs, .ref ri, .int (iI 0)])] 0 0 (c_X0_byteCount l g wr wa (8 * ((c2_7 + 7) / 8)) (iI 0) tu (by first | omega | decide | assumption)) dX7_encode_60 k773 k363 k364 k50 k365 ykX0_byteCount rfl rfl rfl rfl rfl rfl rfl rfl (nl rfl) ⟨nl rfl, nl rfl⟩ ⟨(nl rfl), (nl rfl)⟩ rfl (fun v9 w9 hu => ?_)
      obtain ⟨rfl, rfl⟩ := hu
      refine v_is (wn := [(h0, ob 7 [.int (iI kd), .int (iI w), .ref sm, .ref rw, .ref wr, .ref fd, .ref wt, .ref rd, .int (iI fi), .int (iI rp), .int (iI lo)]), (wt, ob 6 [.ref rw, .int (iI w), .ref wr, .ref wd]), (wa, aB g n f2_8), (rw, ob 2 [.ref rs, .ref ri, .int (iI 0)]), (wr, ob 0 [.ref wa, .int (iI (8 * ((c2_7 + 7) / 8))), .int (iI 0), .int tu])]) (cn := 0) (sn := 0) (sn2 := [.int (iI (((8 * ((c2_7 + 7) / 8)) + 7) / 8))]) rfl rfl rfl rfl ?_
      exact v_iret fx [(h0, ob 7 [.int (iI kd), .int (iI w), .ref sm, .ref rw, .ref wr, .ref fd, .ref wt, .ref rd, .int (iI fi), .int (iI rp), .int (iI lo)]), (wt, ob 6 [.ref rw, .int (iI w), .ref wr, .ref wd]), (rw, ob 2 [.ref rs, .ref ri, .int (iI 0)]), (wr, ob 0 [.ref wa, .int (iI (8 * ((c2_7 + 7) / 8))), .int (iI 0), .int tu]), (wa, aB g n f2_8)] [0, 1, 3, 4, 2] hr dX7_encode_63 rfl rfl (nl rfl) (nl rfl) ⟨(((8 * ((c2_7 + 7) / 8)) + 7) / 8), (8 * ((c2_7 + 7) / 8)), f2_8, rfl, rfl, (by first | omega | rfl | assumption)⟩
  ·
    refine v_aload_n fx 0 dX7_encode_15 rfl rfl ?_
    refine v_get fx 0 6 inX7 k282 dX7_encode_16 rfl rfl (by decide) rfl rfl rfl ?_
    refine v_callV (As := []) (rest := []) fx [1, 3, 4, 2] [0] [(wt, ob 6 [.ref rw, .int (iI w), .ref wr, .ref wd]), (wr, ob 0 [.ref wa, .int (iI 0), .int (iI 0), .int tu]), (wa, aB g n f2_1), (rw, ob 2 [.ref rs, .ref ri, .int (iI 0)])] [(h0, ob 7 [.int (iI kd), .int (iI w), .ref sm, .ref rw, .ref wr, .ref fd, .ref wt, .ref rd, .int (iI fi), .int (iI rp), .int (iI lo)])] 0 0 (c_X6_writeUnmarked_0 l g wt rw wr wd (iI w) wa n f2_1 0 (iI 0) tu rs ri (by first | omega | decide | assumption) (by first | omega | decide | assumption)) dX7_encode_19 k668 k669 k670 k51 k671 ykX6_writeUnmarked rfl rfl rfl rfl rfl rfl rfl rfl (nl rfl) ⟨nl rfl, nl rfl⟩ ⟨(nl rfl), (nl rfl)⟩ rfl (fun v9 w9 hu => ?_)
    obtain ⟨c2_10, f2_11, rfl, rfl, u_12⟩ := hu
    refine v_is (wn := [(h0, ob 7 [.int (iI kd), .int (iI w), .ref sm, .ref rw, .ref wr, .ref fd, .ref wt, .ref rd, .int (iI fi), .int (iI rp), .int (iI lo)]), (wt, ob 6 [.ref rw, .int (iI w), .ref wr, .ref wd]), (wr, ob 0 [.ref wa, .int (iI c2_10), .int (iI 0), .int tu]), (wa, aB g n f2_11), (rw, ob 2 [.ref rs, .ref ri, .int (iI 0)])]) (cn := 0) (sn := 0) (sn2 := []) rfl rfl rfl rfl ?_
    refine v_goto fx 49 dX7_encode_22 (by decide) ?_
    refine v_aload_n fx 0 dX7_encode_49 rfl rfl ?_
    refine v_get fx 0 4 inX7 k280 dX7_encode_50 rfl rfl (by decide) rfl rfl rfl ?_
    refine v_callV (As := []) (rest := []) fx [2] [0, 1, 3, 4] [(wr, ob 0 [.ref wa, .int (iI c2_10), .int (iI 0), .int tu])] [(h0, ob 7 [.int (iI kd), .int (iI w), .ref sm, .ref rw, .ref wr, .ref fd, .ref wt, .ref rd, .int (iI fi), .int (iI rp), .int (iI lo)]), (wt, ob 6 [.ref rw, .int (iI w), .ref wr, .ref wd]), (wa, aB g n f2_11), (rw, ob 2 [.ref rs, .ref ri, .int (iI 0)])] 0 0 (c_X0_fillLastByte l g wr wa c2_10 (iI 0) tu (by first | omega | decide | assumption)) dX7_encode_53 k769 k770 k771 k50 k772 ykX0_fillLastByte rfl rfl rfl rfl rfl rfl rfl rfl (nl rfl) ⟨nl rfl, nl rfl⟩ ⟨(nl rfl), (nl rfl)⟩ rfl (fun v9 w9 hu => ?_)
    obtain ⟨rfl, rfl⟩ := hu
    refine v_is (wn := [(h0, ob 7 [.int (iI kd), .int (iI w), .ref sm, .ref rw, .ref wr, .ref fd, .ref wt, .ref rd, .int (iI fi), .int (iI rp), .int (iI lo)]), (wt, ob 6 [.ref rw, .int (iI w), .ref wr, .ref wd]), (wa, aB g n f2_11), (rw, ob 2 [.ref rs, .ref ri, .int (iI 0)]), (wr, ob 0 [.ref wa, .int (iI (8 * ((c2_10 + 7) / 8))), .int (iI 0), .int tu])]) (cn := 0) (sn := 0) (sn2 := []) rfl rfl rfl rfl ?_
    refine v_aload_n fx 0 dX7_encode_56 rfl rfl ?_
    refine v_get fx 0 4 inX7 k280 dX7_encode_57 rfl rfl (by decide) rfl rfl rfl ?_
    refine v_callV (As := []) (rest := []) fx [4] [0, 1, 2, 3] [(wr, ob 0 [.ref wa, .int (iI (8 * ((c2_10 + 7) / 8))), .int (iI 0), .int tu])] [(h0, ob 7 [.int (iI kd), .int (iI w), .ref sm, .ref rw, .ref wr, .ref fd, .ref wt, .ref rd, .int (iI fi), .int (iI rp), .int (iI lo)]), (wt, ob 6 [.ref rw, .int (iI w), .ref wr, .ref wd]), (wa, aB g n f2_11), (rw, ob 2 [.ref rs, .ref ri, .int (iI 0)])] 0 0 (c_X0_byteCount l g wr wa (8 * ((c2_10 + 7) / 8)) (iI 0) tu (by first | omega | decide | assumption)) dX7_encode_60 k773 k363 k364 k50 k365 ykX0_byteCount rfl rfl rfl rfl rfl rfl rfl rfl (nl rfl) ⟨nl rfl, nl rfl⟩ ⟨(nl rfl), (nl rfl)⟩ rfl (fun v9 w9 hu => ?_)
    obtain ⟨rfl, rfl⟩ := hu
    refine v_is (wn := [(h0, ob 7 [.int (iI kd), .int (iI w), .ref sm, .ref rw, .ref wr, .ref fd, .ref wt, .ref rd, .int (iI fi), .int (iI rp), .int (iI lo)]), (wt, ob 6 [.ref rw, .int (iI w), .ref wr, .ref wd]), (wa, aB g n f2_11), (rw, ob 2 [.ref rs, .ref ri, .int (iI 0)]), (wr, ob 0 [.ref wa, .int (iI (8 * ((c2_10 + 7) / 8))), .int (iI 0), .int tu])]) (cn := 0) (sn := 0) (sn2 := [.int (iI (((8 * ((c2_10 + 7) / 8)) + 7) / 8))]) rfl rfl rfl rfl ?_
    exact v_iret fx [(h0, ob 7 [.int (iI kd), .int (iI w), .ref sm, .ref rw, .ref wr, .ref fd, .ref wt, .ref rd, .int (iI fi), .int (iI rp), .int (iI lo)]), (wt, ob 6 [.ref rw, .int (iI w), .ref wr, .ref wd]), (rw, ob 2 [.ref rs, .ref ri, .int (iI 0)]), (wr, ob 0 [.ref wa, .int (iI (8 * ((c2_10 + 7) / 8))), .int (iI 0), .int tu]), (wa, aB g n f2_11)] [0, 1, 3, 4, 2] hr dX7_encode_63 rfl rfl (nl rfl) (nl rfl) ⟨(((8 * ((c2_10 + 7) / 8)) + 7) / 8), (8 * ((c2_10 + 7) / 8)), f2_11, rfl, rfl, (by first | omega | rfl | assumption)⟩
theorem dX7_byteAt_0 : decode cX7_byteAt 0 = .ok (.aload_n 0, 1) := by decide +kernel
theorem dX7_byteAt_1 : decode cX7_byteAt 1 = .ok (.getfield 44, 3) := by decide +kernel
theorem dX7_byteAt_4 : decode cX7_byteAt 4 = .ok (.iload_n 1, 1) := by decide +kernel
theorem dX7_byteAt_5 : decode cX7_byteAt 5 = .ok (.invokevirtual 106, 3) := by decide +kernel
theorem dX7_byteAt_8 : decode cX7_byteAt 8 = .ok (.ireturn, 1) := by decide +kernel
abbrev po_c_X7_byteAt_0 (g : GG) (h0 : Nat) (kd : Int) (w : Int) (sm : Nat) (rw : Nat) (wr : Nat) (fd : Nat) (wt : Nat) (rd : Nat) (fi : Int) (rp : Int) (lo : Int) (wa : Nat) (x : Int) (pl : Int32) (tu : Int32) : Option Value → va_W → Prop := fun v8 w8 => v8 = some (.int (iI (-1))) ∧ w8 = [(h0, ob 7 [.int (iI kd), .int (iI w), .ref sm, .ref rw, .ref wr, .ref fd, .ref wt, .ref rd, .int (iI fi), .int (iI rp), .int (iI lo)]), (wr, ob 0 [.ref wa, .int (iI 0), .int pl, .int tu])]
set_option maxHeartbeats 4000000 in
set_option maxRecDepth 100000 in
theorem c_X7_byteAt_0 (l : Launch) (g : GG) (h0 : Nat) (kd : Int) (w : Int) (sm : Nat) (rw : Nat) (wr : Nat) (fd : Nat) (wt : Nat) (rd : Nat) (fi : Int) (rp : Int) (lo : Int) (wa : Nat) (x : Int) (pl : Int32) (tu : Int32) (hp0 : -2147483648 ≤ x ∧ x < 2147483648) : Ct l g yX7_byteAt (wM yX7_byteAt cX7_byteAt 2 (some .int)) (rmD 2 0 0) [.ref h0, .int (iI x)] [(h0, ob 7 [.int (iI kd), .int (iI w), .ref sm, .ref rw, .ref wr, .ref fd, .ref wt, .ref rd, .int (iI fi), .int (iI rp), .int (iI lo)]), (wr, ob 0 [.ref wa, .int (iI 0), .int pl, .int tu])] (po_c_X7_byteAt_0 g h0 kd w sm rw wr fd wt rd fi rp lo wa x pl tu) := by
  refine Ct_of (by decide +kernel) (Nat.le_of_ble_eq_true rfl) ?_
  intro p9 e9 s9 m9 ag9 bl9 mt9 c9 A9 fx hr hnm
  refine v_aload_n fx 0 dX7_byteAt_0 rfl rfl ?_
  refine v_get fx 0 4 inX7 k280 dX7_byteAt_1 rfl rfl (by decide) rfl rfl rfl ?_
  refine v_iload_n fx 1 dX7_byteAt_4 rfl rfl ?_
  refine v_callV (As := [.int (iI x)]) (rest := []) fx [1] [0] [(wr, ob 0 [.ref wa, .int (iI 0), .int pl, .int tu])] [(h0, ob 7 [.int (iI kd), .int (iI w), .ref sm, .ref rw, .ref wr, .ref fd, .ref wt, .ref rd, .int (iI fi), .int (iI rp), .int (iI lo)])] 1 0 (c_X0_byteOf_none l g wr wa x pl tu (by first | omega | decide | assumption)) dX7_byteAt_5 k778 k779 k780 k50 k781 ykX0_byteOf rfl rfl rfl rfl rfl rfl rfl rfl (nl rfl) ⟨nl rfl, nl rfl⟩ ⟨(nl rfl), (nl rfl)⟩ rfl (fun v9 w9 hu => ?_)
  obtain ⟨rfl, rfl⟩ := hu
  refine v_is (wn := [(h0, ob 7 [.int (iI kd), .int (iI w), .ref sm, .ref rw, .ref wr, .ref fd, .ref wt, .ref rd, .int (iI fi), .int (iI rp), .int (iI lo)]), (wr, ob 0 [.ref wa, .int (iI 0), .int pl, .int tu])]) (cn := 0) (sn := 0) (sn2 := [.int (iI (-1))]) rfl rfl rfl rfl ?_
  exact v_iret fx [(h0, ob 7 [.int (iI kd), .int (iI w), .ref sm, .ref rw, .ref wr, .ref fd, .ref wt, .ref rd, .int (iI fi), .int (iI rp), .int (iI lo)]), (wr, ob 0 [.ref wa, .int (iI 0), .int pl, .int tu])] [0, 1] hr dX7_byteAt_8 rfl rfl (nl rfl) (nl rfl) ⟨rfl, rfl⟩
theorem dX7_feed_0 : decode cX7_feed 0 = .ok (.aload_n 0, 1) := by decide +kernel
theorem dX7_feed_1 : decode cX7_feed 1 = .ok (.getfield 48, 3) := by decide +kernel
theorem dX7_feed_4 : decode cX7_feed 4 = .ok (.invokevirtual 103, 3) := by decide +kernel
theorem dX7_feed_7 : decode cX7_feed 7 = .ok (.sipush 2000, 3) := by decide +kernel
theorem dX7_feed_10 : decode cX7_feed 10 = .ok (.if_icmp .lt 5, 3) := by decide +kernel
theorem dX7_feed_15 : decode cX7_feed 15 = .ok (.aload_n 0, 1) := by decide +kernel
theorem dX7_feed_16 : decode cX7_feed 16 = .ok (.getfield 48, 3) := by decide +kernel
theorem dX7_feed_19 : decode cX7_feed 19 = .ok (.iload_n 1, 1) := by decide +kernel
theorem dX7_feed_20 : decode cX7_feed 20 = .ok (.invokevirtual 110, 3) := by decide +kernel
theorem dX7_feed_23 : decode cX7_feed 23 = .ok (.iconst 1, 1) := by decide +kernel
theorem dX7_feed_24 : decode cX7_feed 24 = .ok (.ireturn, 1) := by decide +kernel
abbrev po_c_X7_feed_is (g : GG) (h0 : Nat) (kd : Int) (w : Int) (sm : Nat) (rw : Nat) (wr : Nat) (fd : Nat) (wt : Nat) (rd : Nat) (fi : Int) (rp : Int) (lo : Int) (fa : Nat) (n : Nat) (f : Nat → Int32) (c : Int) (pl : Int32) (tu : Int32) (x : Int32) : Option Value → va_W → Prop := fun v8 w8 => ∃ f2 : Nat → Int32, v8 = some (.int (iI 1)) ∧ w8 = [(h0, ob 7 [.int (iI kd), .int (iI w), .ref sm, .ref rw, .ref wr, .ref fd, .ref wt, .ref rd, .int (iI fi), .int (iI rp), .int (iI lo)]), (fd, ob 0 [.ref fa, .int (iI (c + 8)), .int pl, .int tu]), (fa, aB g n f2)]
set_option maxHeartbeats 4000000 in
set_option maxRecDepth 100000 in
theorem c_X7_feed_is (l : Launch) (g : GG) (h0 : Nat) (kd : Int) (w : Int) (sm : Nat) (rw : Nat) (wr : Nat) (fd : Nat) (wt : Nat) (rd : Nat) (fi : Int) (rp : Int) (lo : Int) (fa : Nat) (n : Nat) (f : Nat → Int32) (c : Int) (pl : Int32) (tu : Int32) (x : Int32) (hp0 : 0 ≤ c ∧ c < 8000) (hp1 : (c + 15) / 8 ≤ (n : Int)) (hp2 : n < 1000000) : Ct l g yX7_feed (wM yX7_feed cX7_feed 2 (some .boolean)) (rmD 2 0 0) [.ref h0, .int x] [(h0, ob 7 [.int (iI kd), .int (iI w), .ref sm, .ref rw, .ref wr, .ref fd, .ref wt, .ref rd, .int (iI fi), .int (iI rp), .int (iI lo)]), (fd, ob 0 [.ref fa, .int (iI c), .int pl, .int tu]), (fa, aB g n f)] (po_c_X7_feed_is g h0 kd w sm rw wr fd wt rd fi rp lo fa n f c pl tu x) := by
  refine Ct_of (by decide +kernel) (Nat.le_of_ble_eq_true rfl) ?_
  intro p9 e9 s9 m9 ag9 bl9 mt9 c9 A9 fx hr hnm
  refine v_aload_n fx 0 dX7_feed_0 rfl rfl ?_
  refine v_get fx 0 5 inX7 k281 dX7_feed_1 rfl rfl (by decide) rfl rfl rfl ?_
  refine v_callV (As := []) (rest := []) fx [1] [0, 2] [(fd, ob 0 [.ref fa, .int (iI c), .int pl, .int tu])] [(h0, ob 7 [.int (iI kd), .int (iI w), .ref sm, .ref rw, .ref wr, .ref fd, .ref wt, .ref rd, .int (iI fi), .int (iI rp), .int (iI lo)]), (fa, aB g n f)] 0 0 (c_X0_byteCount l g fd fa c pl tu (by first | omega | decide | assumption)) dX7_feed_4 k773 k363 k364 k50 k365 ykX0_byteCount rfl rfl rfl rfl rfl rfl rfl rfl (nl rfl) ⟨nl rfl, nl rfl⟩ ⟨(nl rfl), (nl rfl)⟩ rfl (fun v9 w9 hu => ?_)
  obtain ⟨rfl, rfl⟩ := hu
  refine v_is (wn := [(h0, ob 7 [.int (iI kd), .int (iI w), .ref sm, .ref rw, .ref wr, .ref fd, .ref wt, .ref rd, .int (iI fi), .int (iI rp), .int (iI lo)]), (fa, aB g n f), (fd, ob 0 [.ref fa, .int (iI c), .int pl, .int tu])]) (cn := 0) (sn := 0) (sn2 := [.int (iI ((c + 7) / 8))]) rfl rfl rfl rfl ?_
  refine v_sipush fx dX7_feed_7 (by decide +kernel) rfl ?_
  refine v_icmp_lt fx 15 dX7_feed_10 (by decide) rfl (by omega) (by omega) (fun h_1 => ?_) (fun h0 => absurd h0 (by omega))
  refine v_aload_n fx 0 dX7_feed_15 rfl rfl ?_
  refine v_get fx 0 5 inX7 k281 dX7_feed_16 rfl rfl (by decide) rfl rfl rfl ?_
  refine v_iload_n fx 1 dX7_feed_19 rfl rfl ?_
  refine v_callV (As := [.int x]) (rest := []) fx [2, 1] [0] [(fd, ob 0 [.ref fa, .int (iI c), .int pl, .int tu]), (fa, aB g n f)] [(h0, ob 7 [.int (iI kd), .int (iI w), .ref sm, .ref rw, .ref wr, .ref fd, .ref wt, .ref rd, .int (iI fi), .int (iI rp), .int (iI lo)])] 1 0 (c_X0_addByte_is l g fd fa n f c pl tu x (by first | omega | decide | assumption) (by first | omega | decide | assumption) (by first | omega | decide | assumption)) dX7_feed_20 k786 k787 k788 k50 k789 ykX0_addByte rfl rfl rfl rfl rfl rfl rfl rfl (nl rfl) ⟨nl rfl, nl rfl⟩ ⟨(nl rfl), (nl rfl)⟩ rfl (fun v9 w9 hu => ?_)
  obtain ⟨f2_2, rfl, rfl⟩ := hu
  refine v_is (wn := [(h0, ob 7 [.int (iI kd), .int (iI w), .ref sm, .ref rw, .ref wr, .ref fd, .ref wt, .ref rd, .int (iI fi), .int (iI rp), .int (iI lo)]), (fd, ob 0 [.ref fa, .int (iI (c + 8)), .int pl, .int tu]), (fa, aB g n f2_2)]) (cn := 0) (sn := 0) (sn2 := []) rfl rfl rfl rfl ?_
  refine v_iconst fx dX7_feed_23 rfl ?_
  exact v_zret fx [(h0, ob 7 [.int (iI kd), .int (iI w), .ref sm, .ref rw, .ref wr, .ref fd, .ref wt, .ref rd, .int (iI fi), .int (iI rp), .int (iI lo)]), (fd, ob 0 [.ref fa, .int (iI (c + 8)), .int pl, .int tu]), (fa, aB g n f2_2)] [0, 1, 2] hr dX7_feed_24 (by first | rfl | exact nar_z _ (by omega)) rfl rfl (nl rfl) (nl rfl) ⟨f2_2, rfl, rfl⟩
theorem dX7_decode_0 : decode cX7_decode 0 = .ok (.aload_n 0, 1) := by decide +kernel
theorem dX7_decode_1 : decode cX7_decode 1 = .ok (.getfield 48, 3) := by decide +kernel
theorem dX7_decode_4 : decode cX7_decode 4 = .ok (.invokevirtual 103, 3) := by decide +kernel
theorem dX7_decode_7 : decode cX7_decode 7 = .ok (.ifCond .le 10, 3) := by decide +kernel
theorem dX7_decode_17 : decode cX7_decode 17 = .ok (.aload_n 0, 1) := by decide +kernel
theorem dX7_decode_18 : decode cX7_decode 18 = .ok (.getfield 44, 3) := by decide +kernel
theorem dX7_decode_21 : decode cX7_decode 21 = .ok (.astore_n 1, 1) := by decide +kernel
theorem dX7_decode_22 : decode cX7_decode 22 = .ok (.aload_n 1, 1) := by decide +kernel
theorem dX7_decode_23 : decode cX7_decode 23 = .ok (.invokevirtual 103, 3) := by decide +kernel
theorem dX7_decode_26 : decode cX7_decode 26 = .ok (.ifCond .ne 5, 3) := by decide +kernel
theorem dX7_decode_29 : decode cX7_decode 29 = .ok (.iconst (-1), 1) := by decide +kernel
theorem dX7_decode_30 : decode cX7_decode 30 = .ok (.ireturn, 1) := by decide +kernel
abbrev po_c_X7_decode_0 (g : GG) (h0 : Nat) (kd : Int) (w : Int) (sm : Nat) (rw : Nat) (wr : Nat) (fd : Nat) (wt : Nat) (rd : Nat) (fi : Int) (rp : Int) (lo : Int) (wa : Nat) (fa : Nat) (pl : Int32) (tu : Int32) (pl2 : Int32) (tu2 : Int32) : Option Value → va_W → Prop := fun v8 w8 => v8 = some (.int (iI (-1))) ∧ w8 = [(h0, ob 7 [.int (iI kd), .int (iI w), .ref sm, .ref rw, .ref wr, .ref fd, .ref wt, .ref rd, .int (iI fi), .int (iI rp), .int (iI lo)]), (wr, ob 0 [.ref wa, .int (iI 0), .int pl, .int tu]), (fd, ob 0 [.ref fa, .int (iI 0), .int pl2, .int tu2])]
set_option maxHeartbeats 4000000 in
set_option maxRecDepth 100000 in
theorem c_X7_decode_0 (l : Launch) (g : GG) (h0 : Nat) (kd : Int) (w : Int) (sm : Nat) (rw : Nat) (wr : Nat) (fd : Nat) (wt : Nat) (rd : Nat) (fi : Int) (rp : Int) (lo : Int) (wa : Nat) (fa : Nat) (pl : Int32) (tu : Int32) (pl2 : Int32) (tu2 : Int32) : Ct l g yX7_decode (wM yX7_decode cX7_decode 3 (some .int)) (rmD 1 0 0) [.ref h0] [(h0, ob 7 [.int (iI kd), .int (iI w), .ref sm, .ref rw, .ref wr, .ref fd, .ref wt, .ref rd, .int (iI fi), .int (iI rp), .int (iI lo)]), (wr, ob 0 [.ref wa, .int (iI 0), .int pl, .int tu]), (fd, ob 0 [.ref fa, .int (iI 0), .int pl2, .int tu2])] (po_c_X7_decode_0 g h0 kd w sm rw wr fd wt rd fi rp lo wa fa pl tu pl2 tu2) := by
  refine Ct_of (by decide +kernel) (Nat.le_of_ble_eq_true rfl) ?_
  intro p9 e9 s9 m9 ag9 bl9 mt9 c9 A9 fx hr hnm
  refine v_aload_n fx 0 dX7_decode_0 rfl rfl ?_
  refine v_get fx 0 5 inX7 k281 dX7_decode_1 rfl rfl (by decide) rfl rfl rfl ?_
  refine v_callV (As := []) (rest := []) fx [2] [0, 1] [(fd, ob 0 [.ref fa, .int (iI 0), .int pl2, .int tu2])] [(h0, ob 7 [.int (iI kd), .int (iI w), .ref sm, .ref rw, .ref wr, .ref fd, .ref wt, .ref rd, .int (iI fi), .int (iI rp), .int (iI lo)]), (wr, ob 0 [.ref wa, .int (iI 0), .int pl, .int tu])] 0 0 (c_X0_byteCount l g fd fa 0 pl2 tu2 (by first | omega | decide | assumption)) dX7_decode_4 k773 k363 k364 k50 k365 ykX0_byteCount rfl rfl rfl rfl rfl rfl rfl rfl (nl rfl) ⟨nl rfl, nl rfl⟩ ⟨(nl rfl), (nl rfl)⟩ rfl (fun v9 w9 hu => ?_)
  obtain ⟨rfl, rfl⟩ := hu
  refine v_is (wn := [(h0, ob 7 [.int (iI kd), .int (iI w), .ref sm, .ref rw, .ref wr, .ref fd, .ref wt, .ref rd, .int (iI fi), .int (iI rp), .int (iI lo)]), (wr, ob 0 [.ref wa, .int (iI 0), .int pl, .int tu]), (fd, ob 0 [.ref fa, .int (iI 0), .int pl2, .int tu2])]) (cn := 0) (sn := 0) (sn2 := [.int (iI ((0 + 7) / 8))]) rfl rfl rfl rfl ?_
  refine v_if_le fx 17 dX7_decode_7 (by decide) rfl (by omega) (fun h_1 => ?_) (fun h0 => absurd h0 (by omega))
  refine v_aload_n fx 0 dX7_decode_17 rfl rfl ?_
  refine v_get fx 0 4 inX7 k280 dX7_decode_18 rfl rfl (by decide) rfl rfl rfl ?_
  refine v_astore_n fx [(1, .ref wr), (0, .ref h0)] dX7_decode_21 (by decide) rfl rfl ?_
  refine v_aload_n fx 0 dX7_decode_22 rfl rfl ?_
  refine v_callV (As := []) (rest := []) fx [1] [0, 2] [(wr, ob 0 [.ref wa, .int (iI 0), .int pl, .int tu])] [(h0, ob 7 [.int (iI kd), .int (iI w), .ref sm, .ref rw, .ref wr, .ref fd, .ref wt, .ref rd, .int (iI fi), .int (iI rp), .int (iI lo)]), (fd, ob 0 [.ref fa, .int (iI 0), .int pl2, .int tu2])] 0 0 (c_X0_byteCount l g wr wa 0 pl tu (by first | omega | decide | assumption)) dX7_decode_23 k773 k363 k364 k50 k365 ykX0_byteCount rfl rfl rfl rfl rfl rfl rfl rfl (nl rfl) ⟨nl rfl, nl rfl⟩ ⟨(nl rfl), (nl rfl)⟩ rfl (fun v9 w9 hu => ?_)
  obtain ⟨rfl, rfl⟩ := hu
  refine v_is (wn := [(h0, ob 7 [.int (iI kd), .int (iI w), .ref sm, .ref rw, .ref wr, .ref fd, .ref wt, .ref rd, .int (iI fi), .int (iI rp), .int (iI lo)]), (fd, ob 0 [.ref fa, .int (iI 0), .int pl2, .int tu2]), (wr, ob 0 [.ref wa, .int (iI 0), .int pl, .int tu])]) (cn := 0) (sn := 0) (sn2 := [.int (iI ((0 + 7) / 8))]) rfl rfl rfl rfl ?_
  refine v_if_ne fx 31 dX7_decode_26 (by decide) rfl (by omega) (fun h0 => absurd h0 (by omega)) (fun h_2 => ?_)
  refine v_iconst fx dX7_decode_29 rfl ?_
  exact v_iret fx [(h0, ob 7 [.int (iI kd), .int (iI w), .ref sm, .ref rw, .ref wr, .ref fd, .ref wt, .ref rd, .int (iI fi), .int (iI rp), .int (iI lo)]), (wr, ob 0 [.ref wa, .int (iI 0), .int pl, .int tu]), (fd, ob 0 [.ref fa, .int (iI 0), .int pl2, .int tu2])] [0, 2, 1] hr dX7_decode_30 rfl rfl (nl rfl) (nl rfl) ⟨rfl, rfl⟩
theorem dX3_hasRow_0 : decode cX3_hasRow 0 = .ok (.aload_n 0, 1) := by decide +kernel
theorem dX3_hasRow_1 : decode cX3_hasRow 1 = .ok (.getfield 12, 3) := by decide +kernel
theorem dX3_hasRow_4 : decode cX3_hasRow 4 = .ok (.iload_n 1, 1) := by decide +kernel
theorem dX3_hasRow_5 : decode cX3_hasRow 5 = .ok (.invokevirtual 83, 3) := by decide +kernel
theorem dX3_hasRow_8 : decode cX3_hasRow 8 = .ok (.ireturn, 1) := by decide +kernel
abbrev po_c_X3_hasRow_0 (g : GG) (h0 : Nat) (w : Int) (r : Nat) (m : Nat) (d : Nat) (t1 : Nat) (t2 : Nat) (t3 : Nat) (td : Nat) (sr : Nat) (rs : Nat) (ri : Nat) (x : Int) : Option Value → va_W → Prop := fun v8 w8 => ∃ q : Int, v8 = some (.int (iI q)) ∧ w8 = [(h0, ob 3 [.int (iI w), .ref r, .ref m, .ref d, .ref t1, .ref t2, .ref t3, .ref td, .ref sr]), (r, ob 2 [.ref rs, .ref ri, .int (iI 0)])] ∧ (q = 0)
set_option maxHeartbeats 4000000 in
set_option maxRecDepth 100000 in
theorem c_X3_hasRow_0 (l : Launch) (g : GG) (h0 : Nat) (w : Int) (r : Nat) (m : Nat) (d : Nat) (t1 : Nat) (t2 : Nat) (t3 : Nat) (td : Nat) (sr : Nat) (rs : Nat) (ri : Nat) (x : Int) (hp0 : -2147483648 ≤ x ∧ x < 2147483648) : Ct l g yX3_hasRow (wM yX3_hasRow cX3_hasRow 2 (some .boolean)) (rmD 1 0 0) [.ref h0, .int (iI x)] [(h0, ob 3 [.int (iI w), .ref r, .ref m, .ref d, .ref t1, .ref t2, .ref t3, .ref td, .ref sr]), (r, ob 2 [.ref rs, .ref ri, .int (iI 0)])] (po_c_X3_hasRow_0 g h0 w r m d t1 t2 t3 td sr rs ri x) := by
  refine Ct_of (by decide +kernel) (Nat.le_of_ble_eq_true rfl) ?_
  intro p9 e9 s9 m9 ag9 bl9 mt9 c9 A9 fx hr hnm
  refine v_aload_n fx 0 dX3_hasRow_0 rfl rfl ?_
  refine v_get fx 0 1 inX3 k249 dX3_hasRow_1 rfl rfl (by decide) rfl rfl rfl ?_
  refine v_iload_n fx 1 dX3_hasRow_4 rfl rfl ?_
  refine v_callV (As := [.int (iI x)]) (rest := []) fx [1] [0] [(r, ob 2 [.ref rs, .ref ri, .int (iI 0)])] [(h0, ob 3 [.int (iI w), .ref r, .ref m, .ref d, .ref t1, .ref t2, .ref t3, .ref td, .ref sr])] 1 0 (c_X2_has l g r rs ri 0 x (by first | omega | decide | assumption) (by first | omega | decide | assumption)) dX3_hasRow_5 k921 k922 k923 k49 k924 ykX2_has rfl rfl rfl rfl rfl rfl rfl rfl (nl rfl) ⟨nl rfl, nl rfl⟩ ⟨(nl rfl), (nl rfl)⟩ rfl (fun v9 w9 hu => ?_)
  obtain ⟨r_1, rfl, rfl, u_2⟩ := hu
  refine v_is (wn := [(h0, ob 3 [.int (iI w), .ref r, .ref m, .ref d, .ref t1, .ref t2, .ref t3, .ref td, .ref sr]), (r, ob 2 [.ref rs, .ref ri, .int (iI 0)])]) (cn := 0) (sn := 0) (sn2 := [.int (iI r_1)]) rfl rfl rfl rfl ?_
  exact v_zret fx [(h0, ob 3 [.int (iI w), .ref r, .ref m, .ref d, .ref t1, .ref t2, .ref t3, .ref td, .ref sr]), (r, ob 2 [.ref rs, .ref ri, .int (iI 0)])] [0, 1] hr dX3_hasRow_8 (by first | rfl | exact nar_z _ (by omega)) rfl rfl (nl rfl) (nl rfl) ⟨r_1, rfl, rfl, (by first | omega | rfl | assumption)⟩
theorem dX3_wasDamaged_0 : decode cX3_wasDamaged 0 = .ok (.aload_n 0, 1) := by decide +kernel
theorem dX3_wasDamaged_1 : decode cX3_wasDamaged 1 = .ok (.getfield 12, 3) := by decide +kernel
theorem dX3_wasDamaged_4 : decode cX3_wasDamaged 4 = .ok (.iload_n 1, 1) := by decide +kernel
theorem dX3_wasDamaged_5 : decode cX3_wasDamaged 5 = .ok (.invokevirtual 83, 3) := by decide +kernel
theorem dX3_wasDamaged_8 : decode cX3_wasDamaged 8 = .ok (.ifCond .eq 25, 3) := by decide +kernel
theorem dX3_wasDamaged_33 : decode cX3_wasDamaged 33 = .ok (.iconst 0, 1) := by decide +kernel
theorem dX3_wasDamaged_34 : decode cX3_wasDamaged 34 = .ok (.ireturn, 1) := by decide +kernel
abbrev po_c_X3_wasDamaged_0 (g : GG) (h0 : Nat) (w : Int) (r : Nat) (m : Nat) (d : Nat) (t1 : Nat) (t2 : Nat) (t3 : Nat) (td : Nat) (sr : Nat) (rs : Nat) (ri : Nat) (x : Int) : Option Value → va_W → Prop := fun v8 w8 => v8 = some (.int (iI 0)) ∧ w8 = [(h0, ob 3 [.int (iI w), .ref r, .ref m, .ref d, .ref t1, .ref t2, .ref t3, .ref td, .ref sr]), (r, ob 2 [.ref rs, .ref ri, .int (iI 0)])]
set_option maxHeartbeats 4000000 in
set_option maxRecDepth 100000 in
theorem c_X3_wasDamaged_0 (l : Launch) (g : GG) (h0 : Nat) (w : Int) (r : Nat) (m : Nat) (d : Nat) (t1 : Nat) (t2 : Nat) (t3 : Nat) (td : Nat) (sr : Nat) (rs : Nat) (ri : Nat) (x : Int) (hp0 : -2147483648 ≤ x ∧ x < 2147483648) : Ct l g yX3_wasDamaged (wM yX3_wasDamaged cX3_wasDamaged 2 (some .boolean)) (rmD 1 0 0) [.ref h0, .int (iI x)] [(h0, ob 3 [.int (iI w), .ref r, .ref m, .ref d, .ref t1, .ref t2, .ref t3, .ref td, .ref sr]), (r, ob 2 [.ref rs, .ref ri, .int (iI 0)])] (po_c_X3_wasDamaged_0 g h0 w r m d t1 t2 t3 td sr rs ri x) := by
  refine Ct_of (by decide +kernel) (Nat.le_of_ble_eq_true rfl) ?_
  intro p9 e9 s9 m9 ag9 bl9 mt9 c9 A9 fx hr hnm
  refine v_aload_n fx 0 dX3_wasDamaged_0 rfl rfl ?_
  refine v_get fx 0 1 inX3 k249 dX3_wasDamaged_1 rfl rfl (by decide) rfl rfl rfl ?_
  refine v_iload_n fx 1 dX3_wasDamaged_4 rfl rfl ?_
  refine v_callV (As := [.int (iI x)]) (rest := []) fx [1] [0] [(r, ob 2 [.ref rs, .ref ri, .int (iI 0)])] [(h0, ob 3 [.int (iI w), .ref r, .ref m, .ref d, .ref t1, .ref t2, .ref t3, .ref td, .ref sr])] 1 0 (c_X2_has l g r rs ri 0 x (by first | omega | decide | assumption) (by first | omega | decide | assumption)) dX3_wasDamaged_5 k921 k922 k923 k49 k924 ykX2_has rfl rfl rfl rfl rfl rfl rfl rfl (nl rfl) ⟨nl rfl, nl rfl⟩ ⟨(nl rfl), (nl rfl)⟩ rfl (fun v9 w9 hu => ?_)
  obtain ⟨r_1, rfl, rfl, u_2⟩ := hu
  refine v_is (wn := [(h0, ob 3 [.int (iI w), .ref r, .ref m, .ref d, .ref t1, .ref t2, .ref t3, .ref td, .ref sr]), (r, ob 2 [.ref rs, .ref ri, .int (iI 0)])]) (cn := 0) (sn := 0) (sn2 := [.int (iI r_1)]) rfl rfl rfl rfl ?_
  refine v_if_eq fx 33 dX3_wasDamaged_8 (by decide) rfl (by omega) (fun h_3 => ?_) (fun h0 => absurd h0 (by omega))
  refine v_iconst fx dX3_wasDamaged_33 rfl ?_
  exact v_zret fx [(h0, ob 3 [.int (iI w), .ref r, .ref m, .ref d, .ref t1, .ref t2, .ref t3, .ref td, .ref sr]), (r, ob 2 [.ref rs, .ref ri, .int (iI 0)])] [0, 1] hr dX3_wasDamaged_34 (by first | rfl | exact nar_z _ (by omega)) rfl rfl (nl rfl) (nl rfl) ⟨rfl, rfl⟩
theorem dX3_changeOf_0 : decode cX3_changeOf 0 = .ok (.aload_n 0, 1) := by decide +kernel
theorem dX3_changeOf_1 : decode cX3_changeOf 1 = .ok (.getfield 12, 3) := by decide +kernel
theorem dX3_changeOf_4 : decode cX3_changeOf 4 = .ok (.iload_n 1, 1) := by decide +kernel
theorem dX3_changeOf_5 : decode cX3_changeOf 5 = .ok (.invokevirtual 83, 3) := by decide +kernel
theorem dX3_changeOf_8 : decode cX3_changeOf 8 = .ok (.ifCond .eq 16, 3) := by decide +kernel
theorem dX3_changeOf_24 : decode cX3_changeOf 24 = .ok (.iconst (-1), 1) := by decide +kernel
theorem dX3_changeOf_25 : decode cX3_changeOf 25 = .ok (.ireturn, 1) := by decide +kernel
abbrev po_c_X3_changeOf_0 (g : GG) (h0 : Nat) (w : Int) (r : Nat) (m : Nat) (d : Nat) (t1 : Nat) (t2 : Nat) (t3 : Nat) (td : Nat) (sr : Nat) (rs : Nat) (ri : Nat) (x : Int) (y : Int32) : Option Value → va_W → Prop := fun v8 w8 => v8 = some (.int (iI (-1))) ∧ w8 = [(h0, ob 3 [.int (iI w), .ref r, .ref m, .ref d, .ref t1, .ref t2, .ref t3, .ref td, .ref sr]), (r, ob 2 [.ref rs, .ref ri, .int (iI 0)])]
set_option maxHeartbeats 4000000 in
set_option maxRecDepth 100000 in
theorem c_X3_changeOf_0 (l : Launch) (g : GG) (h0 : Nat) (w : Int) (r : Nat) (m : Nat) (d : Nat) (t1 : Nat) (t2 : Nat) (t3 : Nat) (td : Nat) (sr : Nat) (rs : Nat) (ri : Nat) (x : Int) (y : Int32) (hp0 : -2147483648 ≤ x ∧ x < 2147483648) : Ct l g yX3_changeOf (wM yX3_changeOf cX3_changeOf 3 (some .int)) (rmD 1 0 0) [.ref h0, .int (iI x), .int y] [(h0, ob 3 [.int (iI w), .ref r, .ref m, .ref d, .ref t1, .ref t2, .ref t3, .ref td, .ref sr]), (r, ob 2 [.ref rs, .ref ri, .int (iI 0)])] (po_c_X3_changeOf_0 g h0 w r m d t1 t2 t3 td sr rs ri x y) := by
  refine Ct_of (by decide +kernel) (Nat.le_of_ble_eq_true rfl) ?_
  intro p9 e9 s9 m9 ag9 bl9 mt9 c9 A9 fx hr hnm
  refine v_aload_n fx 0 dX3_changeOf_0 rfl rfl ?_
  refine v_get fx 0 1 inX3 k249 dX3_changeOf_1 rfl rfl (by decide) rfl rfl rfl ?_
  refine v_iload_n fx 1 dX3_changeOf_4 rfl rfl ?_
  refine v_callV (As := [.int (iI x)]) (rest := []) fx [1] [0] [(r, ob 2 [.ref rs, .ref ri, .int (iI 0)])] [(h0, ob 3 [.int (iI w), .ref r, .ref m, .ref d, .ref t1, .ref t2, .ref t3, .ref td, .ref sr])] 1 0 (c_X2_has l g r rs ri 0 x (by first | omega | decide | assumption) (by first | omega | decide | assumption)) dX3_changeOf_5 k921 k922 k923 k49 k924 ykX2_has rfl rfl rfl rfl rfl rfl rfl rfl (nl rfl) ⟨nl rfl, nl rfl⟩ ⟨(nl rfl), (nl rfl)⟩ rfl (fun v9 w9 hu => ?_)
  obtain ⟨r_1, rfl, rfl, u_2⟩ := hu
  refine v_is (wn := [(h0, ob 3 [.int (iI w), .ref r, .ref m, .ref d, .ref t1, .ref t2, .ref t3, .ref td, .ref sr]), (r, ob 2 [.ref rs, .ref ri, .int (iI 0)])]) (cn := 0) (sn := 0) (sn2 := [.int (iI r_1)]) rfl rfl rfl rfl ?_
  refine v_if_eq fx 24 dX3_changeOf_8 (by decide) rfl (by omega) (fun h_3 => ?_) (fun h0 => absurd h0 (by omega))
  refine v_iconst fx dX3_changeOf_24 rfl ?_
  exact v_iret fx [(h0, ob 3 [.int (iI w), .ref r, .ref m, .ref d, .ref t1, .ref t2, .ref t3, .ref td, .ref sr]), (r, ob 2 [.ref rs, .ref ri, .int (iI 0)])] [0, 1] hr dX3_changeOf_25 rfl rfl (nl rfl) (nl rfl) ⟨rfl, rfl⟩
theorem dX3_modeOf_0 : decode cX3_modeOf 0 = .ok (.aload_n 0, 1) := by decide +kernel
theorem dX3_modeOf_1 : decode cX3_modeOf 1 = .ok (.getfield 18, 3) := by decide +kernel
theorem dX3_modeOf_4 : decode cX3_modeOf 4 = .ok (.iload_n 1, 1) := by decide +kernel
theorem dX3_modeOf_5 : decode cX3_modeOf 5 = .ok (.invokevirtual 83, 3) := by decide +kernel
theorem dX3_modeOf_8 : decode cX3_modeOf 8 = .ok (.ifCond .eq 16, 3) := by decide +kernel
theorem dX3_modeOf_24 : decode cX3_modeOf 24 = .ok (.iconst (-1), 1) := by decide +kernel
theorem dX3_modeOf_25 : decode cX3_modeOf 25 = .ok (.ireturn, 1) := by decide +kernel
abbrev po_c_X3_modeOf_0 (g : GG) (h0 : Nat) (w : Int) (r : Nat) (m : Nat) (d : Nat) (t1 : Nat) (t2 : Nat) (t3 : Nat) (td : Nat) (sr : Nat) (rs : Nat) (ri : Nat) (x : Int) (y : Int32) : Option Value → va_W → Prop := fun v8 w8 => v8 = some (.int (iI (-1))) ∧ w8 = [(h0, ob 3 [.int (iI w), .ref r, .ref m, .ref d, .ref t1, .ref t2, .ref t3, .ref td, .ref sr]), (m, ob 2 [.ref rs, .ref ri, .int (iI 0)])]
set_option maxHeartbeats 4000000 in
set_option maxRecDepth 100000 in
theorem c_X3_modeOf_0 (l : Launch) (g : GG) (h0 : Nat) (w : Int) (r : Nat) (m : Nat) (d : Nat) (t1 : Nat) (t2 : Nat) (t3 : Nat) (td : Nat) (sr : Nat) (rs : Nat) (ri : Nat) (x : Int) (y : Int32) (hp0 : -2147483648 ≤ x ∧ x < 2147483648) : Ct l g yX3_modeOf (wM yX3_modeOf cX3_modeOf 3 (some .int)) (rmD 1 0 0) [.ref h0, .int (iI x), .int y] [(h0, ob 3 [.int (iI w), .ref r, .ref m, .ref d, .ref t1, .ref t2, .ref t3, .ref td, .ref sr]), (m, ob 2 [.ref rs, .ref ri, .int (iI 0)])] (po_c_X3_modeOf_0 g h0 w r m d t1 t2 t3 td sr rs ri x y) := by
  refine Ct_of (by decide +kernel) (Nat.le_of_ble_eq_true rfl) ?_
  intro p9 e9 s9 m9 ag9 bl9 mt9 c9 A9 fx hr hnm
  refine v_aload_n fx 0 dX3_modeOf_0 rfl rfl ?_
  refine v_get fx 0 2 inX3 k250 dX3_modeOf_1 rfl rfl (by decide) rfl rfl rfl ?_
  refine v_iload_n fx 1 dX3_modeOf_4 rfl rfl ?_
  refine v_callV (As := [.int (iI x)]) (rest := []) fx [1] [0] [(m, ob 2 [.ref rs, .ref ri, .int (iI 0)])] [(h0, ob 3 [.int (iI w), .ref r, .ref m, .ref d, .ref t1, .ref t2, .ref t3, .ref td, .ref sr])] 1 0 (c_X2_has l g m rs ri 0 x (by first | omega | decide | assumption) (by first | omega | decide | assumption)) dX3_modeOf_5 k921 k922 k923 k49 k924 ykX2_has rfl rfl rfl rfl rfl rfl rfl rfl (nl rfl) ⟨nl rfl, nl rfl⟩ ⟨(nl rfl), (nl rfl)⟩ rfl (fun v9 w9 hu => ?_)
  obtain ⟨r_1, rfl, rfl, u_2⟩ := hu
  refine v_is (wn := [(h0, ob 3 [.int (iI w), .ref r, .ref m, .ref d, .ref t1, .ref t2, .ref t3, .ref td, .ref sr]), (m, ob 2 [.ref rs, .ref ri, .int (iI 0)])]) (cn := 0) (sn := 0) (sn2 := [.int (iI r_1)]) rfl rfl rfl rfl ?_
  refine v_if_eq fx 24 dX3_modeOf_8 (by decide) rfl (by omega) (fun h_3 => ?_) (fun h0 => absurd h0 (by omega))
  refine v_iconst fx dX3_modeOf_24 rfl ?_
  exact v_iret fx [(h0, ob 3 [.int (iI w), .ref r, .ref m, .ref d, .ref t1, .ref t2, .ref t3, .ref td, .ref sr]), (m, ob 2 [.ref rs, .ref ri, .int (iI 0)])] [0, 1] hr dX3_modeOf_25 rfl rfl (nl rfl) (nl rfl) ⟨rfl, rfl⟩
theorem dX7_at_0 : decode cX7_at 0 = .ok (.aload_n 0, 1) := by decide +kernel
theorem dX7_at_1 : decode cX7_at 1 = .ok (.getfield 65, 3) := by decide +kernel
theorem dX7_at_4 : decode cX7_at 4 = .ok (.iload_n 2, 1) := by decide +kernel
theorem dX7_at_5 : decode cX7_at 5 = .ok (.invokevirtual 131, 3) := by decide +kernel
theorem dX7_at_8 : decode cX7_at 8 = .ok (.ifCond .ne 5, 3) := by decide +kernel
theorem dX7_at_11 : decode cX7_at 11 = .ok (.iconst 0, 1) := by decide +kernel
theorem dX7_at_12 : decode cX7_at 12 = .ok (.ireturn, 1) := by decide +kernel
abbrev po_c_X7_at_0 (g : GG) (h0 : Nat) (kd : Int) (w : Int) (sm : Nat) (rw : Nat) (wr : Nat) (fd : Nat) (wt : Nat) (rd : Nat) (fi : Int) (rp : Int) (lo : Int) (yr : Nat) (ym : Nat) (yd : Nat) (yt1 : Nat) (yt2 : Nat) (yt3 : Nat) (ytd : Nat) (ysr : Nat) (rs : Nat) (ri : Nat) (x : Int32) (y : Int) : Option Value → va_W → Prop := fun v8 w8 => v8 = some (.int (iI 0)) ∧ w8 = [(h0, ob 7 [.int (iI kd), .int (iI w), .ref sm, .ref rw, .ref wr, .ref fd, .ref wt, .ref rd, .int (iI fi), .int (iI rp), .int (iI lo)]), (rd, ob 3 [.int (iI w), .ref yr, .ref ym, .ref yd, .ref yt1, .ref yt2, .ref yt3, .ref ytd, .ref ysr]), (yr, ob 2 [.ref rs, .ref ri, .int (iI 0)])]
set_option maxHeartbeats 4000000 in
set_option maxRecDepth 100000 in
theorem c_X7_at_0 (l : Launch) (g : GG) (h0 : Nat) (kd : Int) (w : Int) (sm : Nat) (rw : Nat) (wr : Nat) (fd : Nat) (wt : Nat) (rd : Nat) (fi : Int) (rp : Int) (lo : Int) (yr : Nat) (ym : Nat) (yd : Nat) (yt1 : Nat) (yt2 : Nat) (yt3 : Nat) (ytd : Nat) (ysr : Nat) (rs : Nat) (ri : Nat) (x : Int32) (y : Int) (hp0 : -2147483648 ≤ y ∧ y < 2147483648) : Ct l g yX7_at (wM yX7_at cX7_at 3 (some .boolean)) (rmD 2 0 0) [.ref h0, .int x, .int (iI y)] [(h0, ob 7 [.int (iI kd), .int (iI w), .ref sm, .ref rw, .ref wr, .ref fd, .ref wt, .ref rd, .int (iI fi), .int (iI rp), .int (iI lo)]), (rd, ob 3 [.int (iI w), .ref yr, .ref ym, .ref yd, .ref yt1, .ref yt2, .ref yt3, .ref ytd, .ref ysr]), (yr, ob 2 [.ref rs, .ref ri, .int (iI 0)])] (po_c_X7_at_0 g h0 kd w sm rw wr fd wt rd fi rp lo yr ym yd yt1 yt2 yt3 ytd ysr rs ri x y) := by
  refine Ct_of (by decide +kernel) (Nat.le_of_ble_eq_true rfl) ?_
  intro p9 e9 s9 m9 ag9 bl9 mt9 c9 A9 fx hr hnm
  refine v_aload_n fx 0 dX7_at_0 rfl rfl ?_
  refine v_get fx 0 7 inX7 k283 dX7_at_1 rfl rfl (by decide) rfl rfl rfl ?_
  refine v_iload_n fx 2 dX7_at_4 rfl rfl ?_
  refine v_callV (As := [.int (iI y)]) (rest := []) fx [1, 2] [0] [(rd, ob 3 [.int (iI w), .ref yr, .ref ym, .ref yd, .ref yt1, .ref yt2, .ref yt3, .ref ytd, .ref ysr]), (yr, ob 2 [.ref rs, .ref ri, .int (iI 0)])] [(h0, ob 7 [.int (iI kd), .int (iI w), .ref sm, .ref rw, .ref wr, .ref fd, .ref wt, .ref rd, .int (iI fi), .int (iI rp), .int (iI lo)])] 1 0 (c_X3_hasRow_0 l g rd w yr ym yd yt1 yt2 yt3 ytd ysr rs ri y (by first | omega | decide | assumption)) dX7_at_5 k974 k975 k976 k53 k977 ykX3_hasRow rfl rfl rfl rfl rfl rfl rfl rfl (nl rfl) ⟨nl rfl, nl rfl⟩ ⟨(nl rfl), (nl rfl)⟩ rfl (fun v9 w9 hu => ?_)
  obtain ⟨q_1, rfl, rfl, u_2⟩ := hu
  refine v_is (wn := [(h0, ob 7 [.int (iI kd), .int (iI w), .ref sm, .ref rw, .ref wr, .ref fd, .ref wt, .ref rd, .int (iI fi), .int (iI rp), .int (iI lo)]), (rd, ob 3 [.int (iI w), .ref yr, .ref ym, .ref yd, .ref yt1, .ref yt2, .ref yt3, .ref ytd, .ref ysr]), (yr, ob 2 [.ref rs, .ref ri, .int (iI 0)])]) (cn := 0) (sn := 0) (sn2 := [.int (iI q_1)]) rfl rfl rfl rfl ?_
  refine v_if_ne fx 13 dX7_at_8 (by decide) rfl (by omega) (fun h0 => absurd h0 (by omega)) (fun h_3 => ?_)
  refine v_iconst fx dX7_at_11 rfl ?_
  exact v_zret fx [(h0, ob 7 [.int (iI kd), .int (iI w), .ref sm, .ref rw, .ref wr, .ref fd, .ref wt, .ref rd, .int (iI fi), .int (iI rp), .int (iI lo)]), (rd, ob 3 [.int (iI w), .ref yr, .ref ym, .ref yd, .ref yt1, .ref yt2, .ref yt3, .ref ytd, .ref ysr]), (yr, ob 2 [.ref rs, .ref ri, .int (iI 0)])] [0, 1, 2] hr dX7_at_12 (by first | rfl | exact nar_z _ (by omega)) rfl rfl (nl rfl) (nl rfl) ⟨rfl, rfl⟩
theorem dX7_damaged_0 : decode cX7_damaged 0 = .ok (.aload_n 0, 1) := by decide +kernel
theorem dX7_damaged_1 : decode cX7_damaged 1 = .ok (.getfield 65, 3) := by decide +kernel
theorem dX7_damaged_4 : decode cX7_damaged 4 = .ok (.iload_n 1, 1) := by decide +kernel
theorem dX7_damaged_5 : decode cX7_damaged 5 = .ok (.invokevirtual 146, 3) := by decide +kernel
theorem dX7_damaged_8 : decode cX7_damaged 8 = .ok (.ireturn, 1) := by decide +kernel
abbrev po_c_X7_damaged_0 (g : GG) (h0 : Nat) (kd : Int) (w : Int) (sm : Nat) (rw : Nat) (wr : Nat) (fd : Nat) (wt : Nat) (rd : Nat) (fi : Int) (rp : Int) (lo : Int) (yr : Nat) (ym : Nat) (yd : Nat) (yt1 : Nat) (yt2 : Nat) (yt3 : Nat) (ytd : Nat) (ysr : Nat) (rs : Nat) (ri : Nat) (y : Int) : Option Value → va_W → Prop := fun v8 w8 => v8 = some (.int (iI 0)) ∧ w8 = [(h0, ob 7 [.int (iI kd), .int (iI w), .ref sm, .ref rw, .ref wr, .ref fd, .ref wt, .ref rd, .int (iI fi), .int (iI rp), .int (iI lo)]), (rd, ob 3 [.int (iI w), .ref yr, .ref ym, .ref yd, .ref yt1, .ref yt2, .ref yt3, .ref ytd, .ref ysr]), (yr, ob 2 [.ref rs, .ref ri, .int (iI 0)])]
set_option maxHeartbeats 4000000 in
set_option maxRecDepth 100000 in
theorem c_X7_damaged_0 (l : Launch) (g : GG) (h0 : Nat) (kd : Int) (w : Int) (sm : Nat) (rw : Nat) (wr : Nat) (fd : Nat) (wt : Nat) (rd : Nat) (fi : Int) (rp : Int) (lo : Int) (yr : Nat) (ym : Nat) (yd : Nat) (yt1 : Nat) (yt2 : Nat) (yt3 : Nat) (ytd : Nat) (ysr : Nat) (rs : Nat) (ri : Nat) (y : Int) (hp0 : -2147483648 ≤ y ∧ y < 2147483648) : Ct l g yX7_damaged (wM yX7_damaged cX7_damaged 2 (some .boolean)) (rmD 2 0 0) [.ref h0, .int (iI y)] [(h0, ob 7 [.int (iI kd), .int (iI w), .ref sm, .ref rw, .ref wr, .ref fd, .ref wt, .ref rd, .int (iI fi), .int (iI rp), .int (iI lo)]), (rd, ob 3 [.int (iI w), .ref yr, .ref ym, .ref yd, .ref yt1, .ref yt2, .ref yt3, .ref ytd, .ref ysr]), (yr, ob 2 [.ref rs, .ref ri, .int (iI 0)])] (po_c_X7_damaged_0 g h0 kd w sm rw wr fd wt rd fi rp lo yr ym yd yt1 yt2 yt3 ytd ysr rs ri y) := by
  refine Ct_of (by decide +kernel) (Nat.le_of_ble_eq_true rfl) ?_
  intro p9 e9 s9 m9 ag9 bl9 mt9 c9 A9 fx hr hnm
  refine v_aload_n fx 0 dX7_damaged_0 rfl rfl ?_
  refine v_get fx 0 7 inX7 k283 dX7_damaged_1 rfl rfl (by decide) rfl rfl rfl ?_
  refine v_iload_n fx 1 dX7_damaged_4 rfl rfl ?_
  refine v_callV (As := [.int (iI y)]) (rest := []) fx [1, 2] [0] [(rd, ob 3 [.int (iI w), .ref yr, .ref ym, .ref yd, .ref yt1, .ref yt2, .ref yt3, .ref ytd, .ref ysr]), (yr, ob 2 [.ref rs, .ref ri, .int (iI 0)])] [(h0, ob 7 [.int (iI kd), .int (iI w), .ref sm, .ref rw, .ref wr, .ref fd, .ref wt, .ref rd, .int (iI fi), .int (iI rp), .int (iI lo)])] 1 0 (c_X3_wasDamaged_0 l g rd w yr ym yd yt1 yt2 yt3 ytd ysr rs ri y (by first | omega | decide | assumption)) dX7_damaged_5 k917 k918 k919 k53 k920 ykX3_wasDamaged rfl rfl rfl rfl rfl rfl rfl rfl (nl rfl) ⟨nl rfl, nl rfl⟩ ⟨(nl rfl), (nl rfl)⟩ rfl (fun v9 w9 hu => ?_)
  obtain ⟨rfl, rfl⟩ := hu
  refine v_is (wn := [(h0, ob 7 [.int (iI kd), .int (iI w), .ref sm, .ref rw, .ref wr, .ref fd, .ref wt, .ref rd, .int (iI fi), .int (iI rp), .int (iI lo)]), (rd, ob 3 [.int (iI w), .ref yr, .ref ym, .ref yd, .ref yt1, .ref yt2, .ref yt3, .ref ytd, .ref ysr]), (yr, ob 2 [.ref rs, .ref ri, .int (iI 0)])]) (cn := 0) (sn := 0) (sn2 := [.int (iI 0)]) rfl rfl rfl rfl ?_
  exact v_zret fx [(h0, ob 7 [.int (iI kd), .int (iI w), .ref sm, .ref rw, .ref wr, .ref fd, .ref wt, .ref rd, .int (iI fi), .int (iI rp), .int (iI lo)]), (rd, ob 3 [.int (iI w), .ref yr, .ref ym, .ref yd, .ref yt1, .ref yt2, .ref yt3, .ref ytd, .ref ysr]), (yr, ob 2 [.ref rs, .ref ri, .int (iI 0)])] [0, 1, 2] hr dX7_damaged_8 (by first | rfl | exact nar_z _ (by omega)) rfl rfl (nl rfl) (nl rfl) ⟨rfl, rfl⟩
theorem dX7_changes_0 : decode cX7_changes 0 = .ok (.aload_n 0, 1) := by decide +kernel
theorem dX7_changes_1 : decode cX7_changes 1 = .ok (.getfield 65, 3) := by decide +kernel
theorem dX7_changes_4 : decode cX7_changes 4 = .ok (.iload_n 1, 1) := by decide +kernel
theorem dX7_changes_5 : decode cX7_changes 5 = .ok (.iload_n 2, 1) := by decide +kernel
theorem dX7_changes_6 : decode cX7_changes 6 = .ok (.invokevirtual 149, 3) := by decide +kernel
theorem dX7_changes_9 : decode cX7_changes 9 = .ok (.ireturn, 1) := by decide +kernel
abbrev po_c_X7_changes_0 (g : GG) (h0 : Nat) (kd : Int) (w : Int) (sm : Nat) (rw : Nat) (wr : Nat) (fd : Nat) (wt : Nat) (rd : Nat) (fi : Int) (rp : Int) (lo : Int) (yr : Nat) (ym : Nat) (yd : Nat) (yt1 : Nat) (yt2 : Nat) (yt3 : Nat) (ytd : Nat) (ysr : Nat) (rs : Nat) (ri : Nat) (y : Int) (z : Int32) : Option Value → va_W → Prop := fun v8 w8 => v8 = some (.int (iI (-1))) ∧ w8 = [(h0, ob 7 [.int (iI kd), .int (iI w), .ref sm, .ref rw, .ref wr, .ref fd, .ref wt, .ref rd, .int (iI fi), .int (iI rp), .int (iI lo)]), (rd, ob 3 [.int (iI w), .ref yr, .ref ym, .ref yd, .ref yt1, .ref yt2, .ref yt3, .ref ytd, .ref ysr]), (yr, ob 2 [.ref rs, .ref ri, .int (iI 0)])]
set_option maxHeartbeats 4000000 in
set_option maxRecDepth 100000 in
theorem c_X7_changes_0 (l : Launch) (g : GG) (h0 : Nat) (kd : Int) (w : Int) (sm : Nat) (rw : Nat) (wr : Nat) (fd : Nat) (wt : Nat) (rd : Nat) (fi : Int) (rp : Int) (lo : Int) (yr : Nat) (ym : Nat) (yd : Nat) (yt1 : Nat) (yt2 : Nat) (yt3 : Nat) (ytd : Nat) (ysr : Nat) (rs : Nat) (ri : Nat) (y : Int) (z : Int32) (hp0 : -2147483648 ≤ y ∧ y < 2147483648) : Ct l g yX7_changes (wM yX7_changes cX7_changes 3 (some .int)) (rmD 2 0 0) [.ref h0, .int (iI y), .int z] [(h0, ob 7 [.int (iI kd), .int (iI w), .ref sm, .ref rw, .ref wr, .ref fd, .ref wt, .ref rd, .int (iI fi), .int (iI rp), .int (iI lo)]), (rd, ob 3 [.int (iI w), .ref yr, .ref ym, .ref yd, .ref yt1, .ref yt2, .ref yt3, .ref ytd, .ref ysr]), (yr, ob 2 [.ref rs, .ref ri, .int (iI 0)])] (po_c_X7_changes_0 g h0 kd w sm rw wr fd wt rd fi rp lo yr ym yd yt1 yt2 yt3 ytd ysr rs ri y z) := by
  refine Ct_of (by decide +kernel) (Nat.le_of_ble_eq_true rfl) ?_
  intro p9 e9 s9 m9 ag9 bl9 mt9 c9 A9 fx hr hnm
  refine v_aload_n fx 0 dX7_changes_0 rfl rfl ?_
  refine v_get fx 0 7 inX7 k283 dX7_changes_1 rfl rfl (by decide) rfl rfl rfl ?_
  refine v_iload_n fx 1 dX7_changes_4 rfl rfl ?_
  refine v_iload_n fx 2 dX7_changes_5 rfl rfl ?_
  refine v_callV (As := [.int (iI y), .int z]) (rest := []) fx [1, 2] [0] [(rd, ob 3 [.int (iI w), .ref yr, .ref ym, .ref yd, .ref yt1, .ref yt2, .ref yt3, .ref ytd, .ref ysr]), (yr, ob 2 [.ref rs, .ref ri, .int (iI 0)])] [(h0, ob 7 [.int (iI kd), .int (iI w), .ref sm, .ref rw, .ref wr, .ref fd, .ref wt, .ref rd, .int (iI fi), .int (iI rp), .int (iI lo)])] 2 0 (c_X3_changeOf_0 l g rd w yr ym yd yt1 yt2 yt3 ytd ysr rs ri y z (by first | omega | decide | assumption)) dX7_changes_6 k929 k930 k931 k53 k932 ykX3_changeOf rfl rfl rfl rfl rfl rfl rfl rfl (nl rfl) ⟨nl rfl, nl rfl⟩ ⟨(nl rfl), (nl rfl)⟩ rfl (fun v9 w9 hu => ?_)
  obtain ⟨rfl, rfl⟩ := hu
  refine v_is (wn := [(h0, ob 7 [.int (iI kd), .int (iI w), .ref sm, .ref rw, .ref wr, .ref fd, .ref wt, .ref rd, .int (iI fi), .int (iI rp), .int (iI lo)]), (rd, ob 3 [.int (iI w), .ref yr, .ref ym, .ref yd, .ref yt1, .ref yt2, .ref yt3, .ref ytd, .ref ysr]), (yr, ob 2 [.ref rs, .ref ri, .int (iI 0)])]) (cn := 0) (sn := 0) (sn2 := [.int (iI (-1))]) rfl rfl rfl rfl ?_
  exact v_iret fx [(h0, ob 7 [.int (iI kd), .int (iI w), .ref sm, .ref rw, .ref wr, .ref fd, .ref wt, .ref rd, .int (iI fi), .int (iI rp), .int (iI lo)]), (rd, ob 3 [.int (iI w), .ref yr, .ref ym, .ref yd, .ref yt1, .ref yt2, .ref yt3, .ref ytd, .ref ysr]), (yr, ob 2 [.ref rs, .ref ri, .int (iI 0)])] [0, 1, 2] hr dX7_changes_9 rfl rfl (nl rfl) (nl rfl) ⟨rfl, rfl⟩
theorem dX7_mode_0 : decode cX7_mode 0 = .ok (.aload_n 0, 1) := by decide +kernel
theorem dX7_mode_1 : decode cX7_mode 1 = .ok (.getfield 65, 3) := by decide +kernel
theorem dX7_mode_4 : decode cX7_mode 4 = .ok (.iload_n 1, 1) := by decide +kernel
theorem dX7_mode_5 : decode cX7_mode 5 = .ok (.iload_n 2, 1) := by decide +kernel
theorem dX7_mode_6 : decode cX7_mode 6 = .ok (.invokevirtual 152, 3) := by decide +kernel
theorem dX7_mode_9 : decode cX7_mode 9 = .ok (.ireturn, 1) := by decide +kernel
abbrev po_c_X7_mode_0 (g : GG) (h0 : Nat) (kd : Int) (w : Int) (sm : Nat) (rw : Nat) (wr : Nat) (fd : Nat) (wt : Nat) (rd : Nat) (fi : Int) (rp : Int) (lo : Int) (yr : Nat) (ym : Nat) (yd : Nat) (yt1 : Nat) (yt2 : Nat) (yt3 : Nat) (ytd : Nat) (ysr : Nat) (rs : Nat) (ri : Nat) (y : Int) (z : Int32) : Option Value → va_W → Prop := fun v8 w8 => v8 = some (.int (iI (-1))) ∧ w8 = [(h0, ob 7 [.int (iI kd), .int (iI w), .ref sm, .ref rw, .ref wr, .ref fd, .ref wt, .ref rd, .int (iI fi), .int (iI rp), .int (iI lo)]), (rd, ob 3 [.int (iI w), .ref yr, .ref ym, .ref yd, .ref yt1, .ref yt2, .ref yt3, .ref ytd, .ref ysr]), (ym, ob 2 [.ref rs, .ref ri, .int (iI 0)])]
set_option maxHeartbeats 4000000 in
set_option maxRecDepth 100000 in
theorem c_X7_mode_0 (l : Launch) (g : GG) (h0 : Nat) (kd : Int) (w : Int) (sm : Nat) (rw : Nat) (wr : Nat) (fd : Nat) (wt : Nat) (rd : Nat) (fi : Int) (rp : Int) (lo : Int) (yr : Nat) (ym : Nat) (yd : Nat) (yt1 : Nat) (yt2 : Nat) (yt3 : Nat) (ytd : Nat) (ysr : Nat) (rs : Nat) (ri : Nat) (y : Int) (z : Int32) (hp0 : -2147483648 ≤ y ∧ y < 2147483648) : Ct l g yX7_mode (wM yX7_mode cX7_mode 3 (some .int)) (rmD 2 0 0) [.ref h0, .int (iI y), .int z] [(h0, ob 7 [.int (iI kd), .int (iI w), .ref sm, .ref rw, .ref wr, .ref fd, .ref wt, .ref rd, .int (iI fi), .int (iI rp), .int (iI lo)]), (rd, ob 3 [.int (iI w), .ref yr, .ref ym, .ref yd, .ref yt1, .ref yt2, .ref yt3, .ref ytd, .ref ysr]), (ym, ob 2 [.ref rs, .ref ri, .int (iI 0)])] (po_c_X7_mode_0 g h0 kd w sm rw wr fd wt rd fi rp lo yr ym yd yt1 yt2 yt3 ytd ysr rs ri y z) := by
  refine Ct_of (by decide +kernel) (Nat.le_of_ble_eq_true rfl) ?_
  intro p9 e9 s9 m9 ag9 bl9 mt9 c9 A9 fx hr hnm
  refine v_aload_n fx 0 dX7_mode_0 rfl rfl ?_
  refine v_get fx 0 7 inX7 k283 dX7_mode_1 rfl rfl (by decide) rfl rfl rfl ?_
  refine v_iload_n fx 1 dX7_mode_4 rfl rfl ?_
  refine v_iload_n fx 2 dX7_mode_5 rfl rfl ?_
  refine v_callV (As := [.int (iI y), .int z]) (rest := []) fx [1, 2] [0] [(rd, ob 3 [.int (iI w), .ref yr, .ref ym, .ref yd, .ref yt1, .ref yt2, .ref yt3, .ref ytd, .ref ysr]), (ym, ob 2 [.ref rs, .ref ri, .int (iI 0)])] [(h0, ob 7 [.int (iI kd), .int (iI w), .ref sm, .ref rw, .ref wr, .ref fd, .ref wt, .ref rd, .int (iI fi), .int (iI rp), .int (iI lo)])] 2 0 (c_X3_modeOf_0 l g rd w yr ym yd yt1 yt2 yt3 ytd ysr rs ri y z (by first | omega | decide | assumption)) dX7_mode_6 k938 k939 k940 k53 k941 ykX3_modeOf rfl rfl rfl rfl rfl rfl rfl rfl (nl rfl) ⟨nl rfl, nl rfl⟩ ⟨(nl rfl), (nl rfl)⟩ rfl (fun v9 w9 hu => ?_)
  obtain ⟨rfl, rfl⟩ := hu
  refine v_is (wn := [(h0, ob 7 [.int (iI kd), .int (iI w), .ref sm, .ref rw, .ref wr, .ref fd, .ref wt, .ref rd, .int (iI fi), .int (iI rp), .int (iI lo)]), (rd, ob 3 [.int (iI w), .ref yr, .ref ym, .ref yd, .ref yt1, .ref yt2, .ref yt3, .ref ytd, .ref ysr]), (ym, ob 2 [.ref rs, .ref ri, .int (iI 0)])]) (cn := 0) (sn := 0) (sn2 := [.int (iI (-1))]) rfl rfl rfl rfl ?_
  exact v_iret fx [(h0, ob 7 [.int (iI kd), .int (iI w), .ref sm, .ref rw, .ref wr, .ref fd, .ref wt, .ref rd, .int (iI fi), .int (iI rp), .int (iI lo)]), (rd, ob 3 [.int (iI w), .ref yr, .ref ym, .ref yd, .ref yt1, .ref yt2, .ref yt3, .ref ytd, .ref ysr]), (ym, ob 2 [.ref rs, .ref ri, .int (iI 0)])] [0, 1, 2] hr dX7_mode_9 rfl rfl (nl rfl) (nl rfl) ⟨rfl, rfl⟩
theorem dX7_fill_0 : decode cX7_fill 0 = .ok (.iload_n 1, 1) := by decide +kernel
theorem dX7_fill_1 : decode cX7_fill 1 = .ok (.ifCond .lt 10, 3) := by decide +kernel
theorem dX7_fill_4 : decode cX7_fill 4 = .ok (.iload_n 1, 1) := by decide +kernel
theorem dX7_fill_5 : decode cX7_fill 5 = .ok (.sipush 4000, 3) := by decide +kernel
theorem dX7_fill_8 : decode cX7_fill 8 = .ok (.if_icmp .le 5, 3) := by decide +kernel
theorem dX7_fill_11 : decode cX7_fill 11 = .ok (.iconst 0, 1) := by decide +kernel
theorem dX7_fill_12 : decode cX7_fill 12 = .ok (.ireturn, 1) := by decide +kernel
theorem dX7_fill_13 : decode cX7_fill 13 = .ok (.aload_n 0, 1) := by decide +kernel
theorem dX7_fill_14 : decode cX7_fill 14 = .ok (.iload_n 1, 1) := by decide +kernel
theorem dX7_fill_15 : decode cX7_fill 15 = .ok (.putfield 93, 3) := by decide +kernel
theorem dX7_fill_18 : decode cX7_fill 18 = .ok (.iconst 1, 1) := by decide +kernel
theorem dX7_fill_19 : decode cX7_fill 19 = .ok (.ireturn, 1) := by decide +kernel
abbrev po_c_X7_fill (g : GG) (h0 : Nat) (kd : Int) (w : Int) (sm : Nat) (rw : Nat) (wr : Nat) (fd : Nat) (wt : Nat) (rd : Nat) (fi : Int) (rp : Int) (lo : Int) (x : Int) : Option Value → va_W → Prop := fun v8 w8 => ∃ r : Int, ∃ fi2 : Int, v8 = some (.int (iI r)) ∧ w8 = [(h0, ob 7 [.int (iI kd), .int (iI w), .ref sm, .ref rw, .ref wr, .ref fd, .ref wt, .ref rd, .int (iI fi2), .int (iI rp), .int (iI lo)])] ∧ ((r = 1 ∧ 0 ≤ x ∧ x ≤ 4000 ∧ fi2 = x) ∨ (r = 0 ∧ (x < 0 ∨ 4000 < x) ∧ fi2 = fi))
set_option maxHeartbeats 4000000 in
set_option maxRecDepth 100000 in
theorem c_X7_fill (l : Launch) (g : GG) (h0 : Nat) (kd : Int) (w : Int) (sm : Nat) (rw : Nat) (wr : Nat) (fd : Nat) (wt : Nat) (rd : Nat) (fi : Int) (rp : Int) (lo : Int) (x : Int) (hp0 : -2147483648 ≤ x ∧ x < 2147483648) : Ct l g yX7_fill (wM yX7_fill cX7_fill 2 (some .boolean)) (rmD 0 0 0) [.ref h0, .int (iI x)] [(h0, ob 7 [.int (iI kd), .int (iI w), .ref sm, .ref rw, .ref wr, .ref fd, .ref wt, .ref rd, .int (iI fi), .int (iI rp), .int (iI lo)])] (po_c_X7_fill g h0 kd w sm rw wr fd wt rd fi rp lo x) := by
  refine Ct_of (by decide +kernel) (Nat.le_of_ble_eq_true rfl) ?_
  intro p9 e9 s9 m9 ag9 bl9 mt9 c9 A9 fx hr hnm
  refine v_iload_n fx 1 dX7_fill_0 rfl rfl ?_
  refine v_if_lt fx 11 dX7_fill_1 (by decide) rfl (by omega) (fun h_1 => ?_) (fun h_1 => ?_)
  ·
    refine v_iconst fx dX7_fill_11 rfl ?_
    exact v_zret fx [(h0, ob 7 [.int (iI kd), .int (iI w), .ref sm, .ref rw, .ref wr, .ref fd, .ref wt, .ref rd, .int (iI fi), .int (iI rp), .int (iI lo)])] [0] hr dX7_fill_12 (by first | rfl | exact nar_z _ (by omega)) rfl rfl (nl rfl) (nl rfl) ⟨0, fi, rfl, rfl, (by first | omega | rfl | assumption)⟩
  ·
    refine v_iload_n fx 1 dX7_fill_4 rfl rfl ?_
    refine v_sipush fx dX7_fill_5 (by decide +kernel) rfl ?_
    refine v_icmp_le fx 13 dX7_fill_8 (by decide) rfl (by omega) (by omega) (fun h_2 => ?_) (fun h_2 => ?_)
    ·
      refine v_aload_n fx 0 dX7_fill_13 rfl rfl ?_
      refine v_iload_n fx 1 dX7_fill_14 rfl rfl ?_
      refine v_put fx 0 8 [(h0, ob 7 [.int (iI kd), .int (iI w), .ref sm, .ref rw, .ref wr, .ref fd, .ref wt, .ref rd, .int (iI x), .int (iI rp), .int (iI lo)])] inX7 tyX7_ok nmX7 k284 dX7_fill_15 rfl rfl (by decide) rfl rfl rfl rfl (nl rfl) rfl rfl ?_
      refine v_iconst fx dX7_fill_18 rfl ?_
      exact v_zret fx [(h0, ob 7 [.int (iI kd), .int (iI w), .ref sm, .ref rw, .ref wr, .ref fd, .ref wt, .ref rd, .int (iI x), .int (iI rp), .int (iI lo)])] [0] hr dX7_fill_19 (by first | rfl | exact nar_z _ (by omega)) rfl rfl (nl rfl) (nl rfl) ⟨1, x, rfl, rfl, (by first | omega | rfl | assumption)⟩
    ·
      refine v_iconst fx dX7_fill_11 rfl ?_
      exact v_zret fx [(h0, ob 7 [.int (iI kd), .int (iI w), .ref sm, .ref rw, .ref wr, .ref fd, .ref wt, .ref rd, .int (iI fi), .int (iI rp), .int (iI lo)])] [0] hr dX7_fill_12 (by first | rfl | exact nar_z _ (by omega)) rfl rfl (nl rfl) (nl rfl) ⟨0, fi, rfl, rfl, (by first | omega | rfl | assumption)⟩
theorem dX7_repair_0 : decode cX7_repair 0 = .ok (.iload_n 1, 1) := by decide +kernel
theorem dX7_repair_1 : decode cX7_repair 1 = .ok (.ifCond .eq 10, 3) := by decide +kernel
theorem dX7_repair_4 : decode cX7_repair 4 = .ok (.iload_n 1, 1) := by decide +kernel
theorem dX7_repair_5 : decode cX7_repair 5 = .ok (.iconst 1, 1) := by decide +kernel
theorem dX7_repair_6 : decode cX7_repair 6 = .ok (.if_icmp .eq 5, 3) := by decide +kernel
theorem dX7_repair_9 : decode cX7_repair 9 = .ok (.iconst 0, 1) := by decide +kernel
theorem dX7_repair_10 : decode cX7_repair 10 = .ok (.ireturn, 1) := by decide +kernel
theorem dX7_repair_11 : decode cX7_repair 11 = .ok (.aload_n 0, 1) := by decide +kernel
theorem dX7_repair_12 : decode cX7_repair 12 = .ok (.iload_n 1, 1) := by decide +kernel
theorem dX7_repair_13 : decode cX7_repair 13 = .ok (.iconst 1, 1) := by decide +kernel
theorem dX7_repair_14 : decode cX7_repair 14 = .ok (.if_icmp .ne 7, 3) := by decide +kernel
theorem dX7_repair_17 : decode cX7_repair 17 = .ok (.iconst 1, 1) := by decide +kernel
theorem dX7_repair_18 : decode cX7_repair 18 = .ok (.goto 4, 3) := by decide +kernel
theorem dX7_repair_21 : decode cX7_repair 21 = .ok (.iconst 0, 1) := by decide +kernel
theorem dX7_repair_22 : decode cX7_repair 22 = .ok (.putfield 120, 3) := by decide +kernel
theorem dX7_repair_25 : decode cX7_repair 25 = .ok (.iconst 1, 1) := by decide +kernel
theorem dX7_repair_26 : decode cX7_repair 26 = .ok (.ireturn, 1) := by decide +kernel
abbrev po_c_X7_repair (g : GG) (h0 : Nat) (kd : Int) (w : Int) (sm : Nat) (rw : Nat) (wr : Nat) (fd : Nat) (wt : Nat) (rd : Nat) (fi : Int) (rp : Int) (lo : Int) (x : Int) : Option Value → va_W → Prop := fun v8 w8 => ∃ r : Int, ∃ rp2 : Int, v8 = some (.int (iI r)) ∧ w8 = [(h0, ob 7 [.int (iI kd), .int (iI w), .ref sm, .ref rw, .ref wr, .ref fd, .ref wt, .ref rd, .int (iI fi), .int (iI rp2), .int (iI lo)])] ∧ ((r = 1 ∧ 0 ≤ x ∧ x ≤ 1 ∧ rp2 = x) ∨ (r = 0 ∧ (x < 0 ∨ 1 < x) ∧ rp2 = rp))
set_option maxHeartbeats 4000000 in
set_option maxRecDepth 100000 in
theorem c_X7_repair (l : Launch) (g : GG) (h0 : Nat) (kd : Int) (w : Int) (sm : Nat) (rw : Nat) (wr : Nat) (fd : Nat) (wt : Nat) (rd : Nat) (fi : Int) (rp : Int) (lo : Int) (x : Int) (hp0 : -2147483648 ≤ x ∧ x < 2147483648) (hp1 : 0 ≤ rp ∧ rp ≤ 1) : Ct l g yX7_repair (wM yX7_repair cX7_repair 2 (some .boolean)) (rmD 0 0 0) [.ref h0, .int (iI x)] [(h0, ob 7 [.int (iI kd), .int (iI w), .ref sm, .ref rw, .ref wr, .ref fd, .ref wt, .ref rd, .int (iI fi), .int (iI rp), .int (iI lo)])] (po_c_X7_repair g h0 kd w sm rw wr fd wt rd fi rp lo x) := by
  refine Ct_of (by decide +kernel) (Nat.le_of_ble_eq_true rfl) ?_
  intro p9 e9 s9 m9 ag9 bl9 mt9 c9 A9 fx hr hnm
  refine v_iload_n fx 1 dX7_repair_0 rfl rfl ?_
  refine v_if_eq fx 11 dX7_repair_1 (by decide) rfl (by omega) (fun h_1 => ?_) (fun h_1 => ?_)
  ·
    refine v_aload_n fx 0 dX7_repair_11 rfl rfl ?_
    refine v_iload_n fx 1 dX7_repair_12 rfl rfl ?_
    refine v_iconst fx dX7_repair_13 rfl ?_
    refine v_icmp_ne fx 21 dX7_repair_14 (by decide) rfl (by omega) (by omega) (fun h_2 => ?_) (fun h_2 => ?_)
    ·
      refine v_iconst fx dX7_repair_21 rfl ?_
      refine v_put fx 0 9 [(h0, ob 7 [.int (iI kd), .int (iI w), .ref sm, .ref rw, .ref wr, .ref fd, .ref wt, .ref rd, .int (iI fi), .int (iI 0), .int (iI lo)])] inX7 tyX7_ok nmX7 k285 dX7_repair_22 rfl rfl (by decide) rfl rfl rfl rfl (nl rfl) rfl rfl ?_
      refine v_iconst fx dX7_repair_25 rfl ?_
      exact v_zret fx [(h0, ob 7 [.int (iI kd), .int (iI w), .ref sm, .ref rw, .ref wr, .ref fd, .ref wt, .ref rd, .int (iI fi), .int (iI 0), .int (iI lo)])] [0] hr dX7_repair_26 (by first | rfl | exact nar_z _ (by omega)) rfl rfl (nl rfl) (nl rfl) ⟨1, 0, rfl, rfl, (by first | omega | rfl | assumption)⟩
    ·
      refine v_iconst fx dX7_repair_17 rfl ?_
      refine v_goto fx 22 dX7_repair_18 (by decide) ?_
      refine v_put fx 0 9 [(h0, ob 7 [.int (iI kd), .int (iI w), .ref sm, .ref rw, .ref wr, .ref fd, .ref wt, .ref rd, .int (iI fi), .int (iI 1), .int (iI lo)])] inX7 tyX7_ok nmX7 k285 dX7_repair_22 rfl rfl (by decide) rfl rfl rfl rfl (nl rfl) rfl rfl ?_
      refine v_iconst fx dX7_repair_25 rfl ?_
      exact v_zret fx [(h0, ob 7 [.int (iI kd), .int (iI w), .ref sm, .ref rw, .ref wr, .ref fd, .ref wt, .ref rd, .int (iI fi), .int (iI 1), .int (iI lo)])] [0] hr dX7_repair_26 (by first | rfl | exact nar_z _ (by omega)) rfl rfl (nl rfl) (nl rfl) ⟨1, 1, rfl, rfl, (by first | omega | rfl | assumption)⟩
  ·
    refine v_iload_n fx 1 dX7_repair_4 rfl rfl ?_
    refine v_iconst fx dX7_repair_5 rfl ?_
    refine v_icmp_eq fx 11 dX7_repair_6 (by decide) rfl (by omega) (by omega) (fun h_3 => ?_) (fun h_3 => ?_)
    ·
      refine v_aload_n fx 0 dX7_repair_11 rfl rfl ?_
      refine v_iload_n fx 1 dX7_repair_12 rfl rfl ?_
      refine v_iconst fx dX7_repair_13 rfl ?_
      refine v_icmp_ne fx 21 dX7_repair_14 (by decide) rfl (by omega) (by omega) (fun h_4 => ?_) (fun h_4 => ?_)
      ·
        refine v_iconst fx dX7_repair_21 rfl ?_
        refine v_put fx 0 9 [(h0, ob 7 [.int (iI kd), .int (iI w), .ref sm, .ref rw, .ref wr, .ref fd, .ref wt, .ref rd, .int (iI fi), .int (iI 0), .int (iI lo)])] inX7 tyX7_ok nmX7 k285 dX7_repair_22 rfl rfl (by decide) rfl rfl rfl rfl (nl rfl) rfl rfl ?_
        refine v_iconst fx dX7_repair_25 rfl ?_
        exact v_zret fx [(h0, ob 7 [.int (iI kd), .int (iI w), .ref sm, .ref rw, .ref wr, .ref fd, .ref wt, .ref rd, .int (iI fi), .int (iI 0), .int (iI lo)])] [0] hr dX7_repair_26 (by first | rfl | exact nar_z _ (by omega)) rfl rfl (nl rfl) (nl rfl) ⟨1, 0, rfl, rfl, (by first | omega | rfl | assumption)⟩
      ·
        refine v_iconst fx dX7_repair_17 rfl ?_
        refine v_goto fx 22 dX7_repair_18 (by decide) ?_
        refine v_put fx 0 9 [(h0, ob 7 [.int (iI kd), .int (iI w), .ref sm, .ref rw, .ref wr, .ref fd, .ref wt, .ref rd, .int (iI fi), .int (iI 1), .int (iI lo)])] inX7 tyX7_ok nmX7 k285 dX7_repair_22 rfl rfl (by decide) rfl rfl rfl rfl (nl rfl) rfl rfl ?_
        refine v_iconst fx dX7_repair_25 rfl ?_
        exact v_zret fx [(h0, ob 7 [.int (iI kd), .int (iI w), .ref sm, .ref rw, .ref wr, .ref fd, .ref wt, .ref rd, .int (iI fi), .int (iI 1), .int (iI lo)])] [0] hr dX7_repair_26 (by first | rfl | exact nar_z _ (by omega)) rfl rfl (nl rfl) (nl rfl) ⟨1, 1, rfl, rfl, (by first | omega | rfl | assumption)⟩
    ·
      refine v_iconst fx dX7_repair_9 rfl ?_
      exact v_zret fx [(h0, ob 7 [.int (iI kd), .int (iI w), .ref sm, .ref rw, .ref wr, .ref fd, .ref wt, .ref rd, .int (iI fi), .int (iI rp), .int (iI lo)])] [0] hr dX7_repair_10 (by first | rfl | exact nar_z _ (by omega)) rfl rfl (nl rfl) (nl rfl) ⟨0, rp, rfl, rfl, (by first | omega | rfl | assumption)⟩
theorem dX7_order_0 : decode cX7_order 0 = .ok (.aload_n 0, 1) := by decide +kernel
theorem dX7_order_1 : decode cX7_order 1 = .ok (.getfield 155, 3) := by decide +kernel
theorem dX7_order_4 : decode cX7_order 4 = .ok (.iload_n 1, 1) := by decide +kernel
theorem dX7_order_5 : decode cX7_order 5 = .ok (.if_icmp .ne 5, 3) := by decide +kernel
theorem dX7_order_8 : decode cX7_order 8 = .ok (.iconst 0, 1) := by decide +kernel
theorem dX7_order_9 : decode cX7_order 9 = .ok (.ireturn, 1) := by decide +kernel
theorem dX7_order_10 : decode cX7_order 10 = .ok (.aload_n 0, 1) := by decide +kernel
theorem dX7_order_11 : decode cX7_order 11 = .ok (.iload_n 1, 1) := by decide +kernel
theorem dX7_order_12 : decode cX7_order 12 = .ok (.putfield 155, 3) := by decide +kernel
theorem dX7_order_15 : decode cX7_order 15 = .ok (.aload_n 0, 1) := by decide +kernel
theorem dX7_order_16 : decode cX7_order 16 = .ok (.getfield 44, 3) := by decide +kernel
theorem dX7_order_19 : decode cX7_order 19 = .ok (.iload_n 1, 1) := by decide +kernel
theorem dX7_order_20 : decode cX7_order 20 = .ok (.invokevirtual 158, 3) := by decide +kernel
theorem dX7_order_23 : decode cX7_order 23 = .ok (.aload_n 0, 1) := by decide +kernel
theorem dX7_order_24 : decode cX7_order 24 = .ok (.getfield 48, 3) := by decide +kernel
theorem dX7_order_27 : decode cX7_order 27 = .ok (.iload_n 1, 1) := by decide +kernel
theorem dX7_order_28 : decode cX7_order 28 = .ok (.invokevirtual 158, 3) := by decide +kernel
theorem dX7_order_31 : decode cX7_order 31 = .ok (.iconst 1, 1) := by decide +kernel
theorem dX7_order_32 : decode cX7_order 32 = .ok (.ireturn, 1) := by decide +kernel
abbrev po_c_X7_order (g : GG) (h0 : Nat) (kd : Int) (w : Int) (sm : Nat) (rw : Nat) (wr : Nat) (fd : Nat) (wt : Nat) (rd : Nat) (fi : Int) (rp : Int) (lo : Int) (wa : Nat) (fa : Nat) (c1 : Int) (c2 : Int) (pl : Int32) (pl2 : Int32) (tu : Int32) (tu2 : Int32) (x : Int) : Option Value → va_W → Prop := fun v8 w8 => ∃ r : Int, ∃ lo2 : Int, ∃ t1 : Int32, ∃ t2 : Int32, v8 = some (.int (iI r)) ∧ w8 = [(h0, ob 7 [.int (iI kd), .int (iI w), .ref sm, .ref rw, .ref wr, .ref fd, .ref wt, .ref rd, .int (iI fi), .int (iI rp), .int (iI lo2)]), (wr, ob 0 [.ref wa, .int (iI c1), .int pl, .int t1]), (fd, ob 0 [.ref fa, .int (iI c2), .int pl2, .int t2])] ∧ ((r = 0 ∧ x = lo) ∨ (r = 1 ∧ x ≠ lo)) ∧ (lo2 = x)
set_option maxHeartbeats 4000000 in
set_option maxRecDepth 100000 in
theorem c_X7_order (l : Launch) (g : GG) (h0 : Nat) (kd : Int) (w : Int) (sm : Nat) (rw : Nat) (wr : Nat) (fd : Nat) (wt : Nat) (rd : Nat) (fi : Int) (rp : Int) (lo : Int) (wa : Nat) (fa : Nat) (c1 : Int) (c2 : Int) (pl : Int32) (pl2 : Int32) (tu : Int32) (tu2 : Int32) (x : Int) (hp0 : 0 ≤ x ∧ x ≤ 1) (hp1 : 0 ≤ lo ∧ lo ≤ 1) : Ct l g yX7_order (wM yX7_order cX7_order 2 (some .int)) (rmD 1 0 0) [.ref h0, .int (iI x)] [(h0, ob 7 [.int (iI kd), .int (iI w), .ref sm, .ref rw, .ref wr, .ref fd, .ref wt, .ref rd, .int (iI fi), .int (iI rp), .int (iI lo)]), (wr, ob 0 [.ref wa, .int (iI c1), .int pl, .int tu]), (fd, ob 0 [.ref fa, .int (iI c2), .int pl2, .int tu2])] (po_c_X7_order g h0 kd w sm rw wr fd wt rd fi rp lo wa fa c1 c2 pl pl2 tu tu2 x) := by
  refine Ct_of (by decide +kernel) (Nat.le_of_ble_eq_true rfl) ?_
  intro p9 e9 s9 m9 ag9 bl9 mt9 c9 A9 fx hr hnm
  refine v_aload_n fx 0 dX7_order_0 rfl rfl ?_
  refine v_get fx 0 10 inX7 k286 dX7_order_1 rfl rfl (by decide) rfl rfl rfl ?_
  refine v_iload_n fx 1 dX7_order_4 rfl rfl ?_
  refine v_icmp_ne fx 10 dX7_order_5 (by decide) rfl (by omega) (by omega) (fun h_1 => ?_) (fun h_1 => ?_)
  ·
    refine v_aload_n fx 0 dX7_order_10 rfl rfl ?_
    refine v_iload_n fx 1 dX7_order_11 rfl rfl ?_
    refine v_put fx 0 10 [(h0, ob 7 [.int (iI kd), .int (iI w), .ref sm, .ref rw, .ref wr, .ref fd, .ref wt, .ref rd, .int (iI fi), .int (iI rp), .int (iI x)]), (wr, ob 0 [.ref wa, .int (iI c1), .int pl, .int tu]), (fd, ob 0 [.ref fa, .int (iI c2), .int pl2, .int tu2])] inX7 tyX7_ok nmX7 k286 dX7_order_12 rfl rfl (by decide) rfl rfl (by first | exact nar_z _ (by omega) | simp_all) (by first | exact fit_z _ (by omega) | simp_all) (nl rfl) rfl rfl ?_
    refine v_aload_n fx 0 dX7_order_15 rfl rfl ?_
    refine v_get fx 0 4 inX7 k280 dX7_order_16 rfl rfl (by decide) rfl rfl rfl ?_
    refine v_iload_n fx 1 dX7_order_19 rfl rfl ?_
    refine v_callV (As := [.int (iI x)]) (rest := []) fx [1] [0, 2] [(wr, ob 0 [.ref wa, .int (iI c1), .int pl, .int tu])] [(h0, ob 7 [.int (iI kd), .int (iI w), .ref sm, .ref rw, .ref wr, .ref fd, .ref wt, .ref rd, .int (iI fi), .int (iI rp), .int (iI x)]), (fd, ob 0 [.ref fa, .int (iI c2), .int pl2, .int tu2])] 1 0 (c_X0_setLowestFirst l g wr wa c1 pl tu x (by first | omega | decide | assumption)) dX7_order_20 k954 k955 k956 k50 k957 ykX0_setLowestFirst rfl rfl rfl rfl rfl rfl rfl rfl (nl rfl) ⟨nl rfl, nl rfl⟩ ⟨(nl rfl), (nl rfl)⟩ rfl (fun v9 w9 hu => ?_)
    obtain ⟨t2_2, rfl, rfl, u_3⟩ := hu
    refine v_is (wn := [(h0, ob 7 [.int (iI kd), .int (iI w), .ref sm, .ref rw, .ref wr, .ref fd, .ref wt, .ref rd, .int (iI fi), .int (iI rp), .int (iI x)]), (fd, ob 0 [.ref fa, .int (iI c2), .int pl2, .int tu2]), (wr, ob 0 [.ref wa, .int (iI c1), .int pl, .int (iI t2_2)])]) (cn := 0) (sn := 0) (sn2 := []) rfl rfl rfl rfl ?_
    refine v_aload_n fx 0 dX7_order_23 rfl rfl ?_
    refine v_get fx 0 5 inX7 k281 dX7_order_24 rfl rfl (by decide) rfl rfl rfl ?_
    refine v_iload_n fx 1 dX7_order_27 rfl rfl ?_
    refine v_callV (As := [.int (iI x)]) (rest := []) fx [1] [0, 2] [(fd, ob 0 [.ref fa, .int (iI c2), .int pl2, .int tu2])] [(h0, ob 7 [.int (iI kd), .int (iI w), .ref sm, .ref rw, .ref wr, .ref fd, .ref wt, .ref rd, .int (iI fi), .int (iI rp), .int (iI x)]), (wr, ob 0 [.ref wa, .int (iI c1), .int pl, .int (iI t2_2)])] 1 0 (c_X0_setLowestFirst l g fd fa c2 pl2 tu2 x (by first | omega | decide | assumption)) dX7_order_28 k954 k955 k956 k50 k957 ykX0_setLowestFirst rfl rfl rfl rfl rfl rfl rfl rfl (nl rfl) ⟨nl rfl, nl rfl⟩ ⟨(nl rfl), (nl rfl)⟩ rfl (fun v9 w9 hu => ?_)
    obtain ⟨t2_4, rfl, rfl, u_5⟩ := hu
    refine v_is (wn := [(h0, ob 7 [.int (iI kd), .int (iI w), .ref sm, .ref rw, .ref wr, .ref fd, .ref wt, .ref rd, .int (iI fi), .int (iI rp), .int (iI x)]), (wr, ob 0 [.ref wa, .int (iI c1), .int pl, .int (iI t2_2)]), (fd, ob 0 [.ref fa, .int (iI c2), .int pl2, .int (iI t2_4)])]) (cn := 0) (sn := 0) (sn2 := []) rfl rfl rfl rfl ?_
    refine v_iconst fx dX7_order_31 rfl ?_
    exact v_iret fx [(h0, ob 7 [.int (iI kd), .int (iI w), .ref sm, .ref rw, .ref wr, .ref fd, .ref wt, .ref rd, .int (iI fi), .int (iI rp), .int (iI x)]), (wr, ob 0 [.ref wa, .int (iI c1), .int pl, .int (iI t2_2)]), (fd, ob 0 [.ref fa, .int (iI c2), .int pl2, .int (iI t2_4)])] [0, 1, 2] hr dX7_order_32 rfl rfl (nl rfl) (nl rfl) ⟨1, x, (iI t2_2), (iI t2_4), rfl, rfl, (by first | omega | rfl | assumption), (by first | omega | rfl | assumption)⟩
  ·
    refine v_iconst fx dX7_order_8 rfl ?_
    exact v_iret fx [(h0, ob 7 [.int (iI kd), .int (iI w), .ref sm, .ref rw, .ref wr, .ref fd, .ref wt, .ref rd, .int (iI fi), .int (iI rp), .int (iI lo)]), (wr, ob 0 [.ref wa, .int (iI c1), .int pl, .int tu]), (fd, ob 0 [.ref fa, .int (iI c2), .int pl2, .int tu2])] [0, 1, 2] hr dX7_order_9 rfl rfl (nl rfl) (nl rfl) ⟨0, lo, tu, tu2, rfl, rfl, (by first | omega | rfl | assumption), (by first | omega | rfl | assumption)⟩
theorem dX3_forget_0 : decode cX3_forget 0 = .ok (.aload_n 0, 1) := by decide +kernel
theorem dX3_forget_1 : decode cX3_forget 1 = .ok (.getfield 12, 3) := by decide +kernel
theorem dX3_forget_4 : decode cX3_forget 4 = .ok (.invokevirtual 80, 3) := by decide +kernel
theorem dX3_forget_7 : decode cX3_forget 7 = .ok (.aload_n 0, 1) := by decide +kernel
theorem dX3_forget_8 : decode cX3_forget 8 = .ok (.getfield 18, 3) := by decide +kernel
theorem dX3_forget_11 : decode cX3_forget 11 = .ok (.invokevirtual 80, 3) := by decide +kernel
theorem dX3_forget_14 : decode cX3_forget 14 = .ok (.return_, 1) := by decide +kernel
abbrev po_c_X3_forget (g : GG) (h0 : Nat) (w : Int) (r : Nat) (m : Nat) (d : Nat) (t1 : Nat) (t2 : Nat) (t3 : Nat) (td : Nat) (sr : Nat) (rs : Nat) (ri : Nat) (ms : Nat) (mi : Nat) (c1 : Int) (c2 : Int) (f : Nat → Int32) (f1 : Nat → Int32) : Option Value → va_W → Prop := fun v8 w8 => ∃ f2 : Nat → Int32, ∃ f3 : Nat → Int32, v8 = none ∧ w8 = [(h0, ob 3 [.int (iI w), .ref r, .ref m, .ref d, .ref t1, .ref t2, .ref t3, .ref td, .ref sr]), (r, ob 2 [.ref rs, .ref ri, .int (iI 0)]), (rs, aI g 27 f2), (m, ob 2 [.ref ms, .ref mi, .int (iI 0)]), (ms, aI g 27 f3)]
set_option maxHeartbeats 4000000 in
set_option maxRecDepth 100000 in
theorem c_X3_forget (l : Launch) (g : GG) (h0 : Nat) (w : Int) (r : Nat) (m : Nat) (d : Nat) (t1 : Nat) (t2 : Nat) (t3 : Nat) (td : Nat) (sr : Nat) (rs : Nat) (ri : Nat) (ms : Nat) (mi : Nat) (c1 : Int) (c2 : Int) (f : Nat → Int32) (f1 : Nat → Int32) : Ct l g yX3_forget (wM yX3_forget cX3_forget 1 none) (rmD 1 0 0) [.ref h0] [(h0, ob 3 [.int (iI w), .ref r, .ref m, .ref d, .ref t1, .ref t2, .ref t3, .ref td, .ref sr]), (r, ob 2 [.ref rs, .ref ri, .int (iI c1)]), (rs, aI g 27 f), (m, ob 2 [.ref ms, .ref mi, .int (iI c2)]), (ms, aI g 27 f1)] (po_c_X3_forget g h0 w r m d t1 t2 t3 td sr rs ri ms mi c1 c2 f f1) := by
  refine Ct_of (by decide +kernel) (Nat.le_of_ble_eq_true rfl) ?_
  intro p9 e9 s9 m9 ag9 bl9 mt9 c9 A9 fx hr hnm
  refine v_aload_n fx 0 dX3_forget_0 rfl rfl ?_
  refine v_get fx 0 1 inX3 k249 dX3_forget_1 rfl rfl (by decide) rfl rfl rfl ?_
  refine v_callV (As := []) (rest := []) fx [1, 2] [0, 3, 4] [(r, ob 2 [.ref rs, .ref ri, .int (iI c1)]), (rs, aI g 27 f)] [(h0, ob 3 [.int (iI w), .ref r, .ref m, .ref d, .ref t1, .ref t2, .ref t3, .ref td, .ref sr]), (m, ob 2 [.ref ms, .ref mi, .int (iI c2)]), (ms, aI g 27 f1)] 0 0 (c_X2_removeAll l g r rs ri c1 f ) dX3_forget_4 k802 k803 k804 k49 k805 ykX2_removeAll rfl rfl rfl rfl rfl rfl rfl rfl (nl rfl) ⟨nl rfl, nl rfl⟩ ⟨(nl rfl), (nl rfl)⟩ rfl (fun v9 w9 hu => ?_)
  obtain ⟨f2_1, rfl, rfl⟩ := hu
  refine v_is (wn := [(h0, ob 3 [.int (iI w), .ref r, .ref m, .ref d, .ref t1, .ref t2, .ref t3, .ref td, .ref sr]), (m, ob 2 [.ref ms, .ref mi, .int (iI c2)]), (ms, aI g 27 f1), (r, ob 2 [.ref rs, .ref ri, .int (iI 0)]), (rs, aI g 27 f2_1)]) (cn := 0) (sn := 0) (sn2 := []) rfl rfl rfl rfl ?_
  refine v_aload_n fx 0 dX3_forget_7 rfl rfl ?_
  refine v_get fx 0 2 inX3 k250 dX3_forget_8 rfl rfl (by decide) rfl rfl rfl ?_
  refine v_callV (As := []) (rest := []) fx [1, 2] [0, 3, 4] [(m, ob 2 [.ref ms, .ref mi, .int (iI c2)]), (ms, aI g 27 f1)] [(h0, ob 3 [.int (iI w), .ref r, .ref m, .ref d, .ref t1, .ref t2, .ref t3, .ref td, .ref sr]), (r, ob 2 [.ref rs, .ref ri, .int (iI 0)]), (rs, aI g 27 f2_1)] 0 0 (c_X2_removeAll l g m ms mi c2 f1 ) dX3_forget_11 k802 k803 k804 k49 k805 ykX2_removeAll rfl rfl rfl rfl rfl rfl rfl rfl (nl rfl) ⟨nl rfl, nl rfl⟩ ⟨(nl rfl), (nl rfl)⟩ rfl (fun v9 w9 hu => ?_)
  obtain ⟨f2_2, rfl, rfl⟩ := hu
  refine v_is (wn := [(h0, ob 3 [.int (iI w), .ref r, .ref m, .ref d, .ref t1, .ref t2, .ref t3, .ref td, .ref sr]), (r, ob 2 [.ref rs, .ref ri, .int (iI 0)]), (rs, aI g 27 f2_1), (m, ob 2 [.ref ms, .ref mi, .int (iI 0)]), (ms, aI g 27 f2_2)]) (cn := 0) (sn := 0) (sn2 := []) rfl rfl rfl rfl ?_
  exact v_vret fx [(h0, ob 3 [.int (iI w), .ref r, .ref m, .ref d, .ref t1, .ref t2, .ref t3, .ref td, .ref sr]), (r, ob 2 [.ref rs, .ref ri, .int (iI 0)]), (rs, aI g 27 f2_1), (m, ob 2 [.ref ms, .ref mi, .int (iI 0)]), (ms, aI g 27 f2_2)] [0, 1, 2, 3, 4] hr dX3_forget_14 rfl rfl (nl rfl) (nl rfl) ⟨f2_1, f2_2, rfl, rfl⟩
theorem dX7_clear_0 : decode cX7_clear 0 = .ok (.aload_n 0, 1) := by decide +kernel
theorem dX7_clear_1 : decode cX7_clear 1 = .ok (.getfield 30, 3) := by decide +kernel
theorem dX7_clear_4 : decode cX7_clear 4 = .ok (.invokevirtual 84, 3) := by decide +kernel
theorem dX7_clear_7 : decode cX7_clear 7 = .ok (.aload_n 0, 1) := by decide +kernel
theorem dX7_clear_8 : decode cX7_clear 8 = .ok (.getfield 37, 3) := by decide +kernel
theorem dX7_clear_11 : decode cX7_clear 11 = .ok (.invokevirtual 162, 3) := by decide +kernel
theorem dX7_clear_14 : decode cX7_clear 14 = .ok (.aload_n 0, 1) := by decide +kernel
theorem dX7_clear_15 : decode cX7_clear 15 = .ok (.getfield 44, 3) := by decide +kernel
theorem dX7_clear_18 : decode cX7_clear 18 = .ok (.invokevirtual 87, 3) := by decide +kernel
theorem dX7_clear_21 : decode cX7_clear 21 = .ok (.aload_n 0, 1) := by decide +kernel
theorem dX7_clear_22 : decode cX7_clear 22 = .ok (.getfield 48, 3) := by decide +kernel
theorem dX7_clear_25 : decode cX7_clear 25 = .ok (.invokevirtual 87, 3) := by decide +kernel
theorem dX7_clear_28 : decode cX7_clear 28 = .ok (.aload_n 0, 1) := by decide +kernel
theorem dX7_clear_29 : decode cX7_clear 29 = .ok (.getfield 65, 3) := by decide +kernel
theorem dX7_clear_32 : decode cX7_clear 32 = .ok (.invokevirtual 128, 3) := by decide +kernel
theorem dX7_clear_35 : decode cX7_clear 35 = .ok (.return_, 1) := by decide +kernel
abbrev po_c_X7_clear (g : GG) (h0 : Nat) (kd : Int) (w : Int) (sm : Nat) (rw : Nat) (wr : Nat) (fd : Nat) (wt : Nat) (rd : Nat) (fi : Int) (rp : Int) (lo : Int) (yr : Nat) (ym : Nat) (yd : Nat) (yt1 : Nat) (yt2 : Nat) (yt3 : Nat) (ytd : Nat) (ysr : Nat) (sa : Nat) (n : Nat) (rs : Nat) (ri : Nat) (wa : Nat) (nw : Nat) (fa : Nat) (nf : Nat) (qs : Nat) (qi : Nat) (ms : Nat) (mi : Nat) (c0 : Int) (cw : Int) (cf : Int) (c1 : Int) (c2 : Int) (f0 : Nat → Int32) (f1 : Nat → Int32) (f2 : Nat → Int32) (f3 : Nat → Int32) (f4 : Nat → Int32) (f5 : Nat → Int32) (pl : Int32) (pl2 : Int32) (tu : Int32) (tu2 : Int32) : Option Value → va_W → Prop := fun v8 w8 => ∃ e0 : Nat → Int32, ∃ e1 : Nat → Int32, ∃ e2 : Nat → Int32, ∃ e3 : Nat → Int32, ∃ e4 : Nat → Int32, ∃ e5 : Nat → Int32, v8 = none ∧ w8 = [(h0, ob 7 [.int (iI kd), .int (iI w), .ref sm, .ref rw, .ref wr, .ref fd, .ref wt, .ref rd, .int (iI fi), .int (iI rp), .int (iI lo)]), (sm, ob 4 [.int (iI w), .ref sa]), (sa, aI g n e0), (rw, ob 2 [.ref rs, .ref ri, .int (iI 0)]), (rs, aI g 27 e1), (wr, ob 0 [.ref wa, .int (iI 0), .int (iI 0), .int tu]), (wa, aB g nw e2), (fd, ob 0 [.ref fa, .int (iI 0), .int (iI 0), .int tu2]), (fa, aB g nf e3), (rd, ob 3 [.int (iI w), .ref yr, .ref ym, .ref yd, .ref yt1, .ref yt2, .ref yt3, .ref ytd, .ref ysr]), (yr, ob 2 [.ref qs, .ref qi, .int (iI 0)]), (qs, aI g 27 e4), (ym, ob 2 [.ref ms, .ref mi, .int (iI 0)]), (ms, aI g 27 e5)]
set_option maxHeartbeats 4000000 in
set_option maxRecDepth 100000 in
theorem c_X7_clear (l : Launch) (g : GG) (h0 : Nat) (kd : Int) (w : Int) (sm : Nat) (rw : Nat) (wr : Nat) (fd : Nat) (wt : Nat) (rd : Nat) (fi : Int) (rp : Int) (lo : Int) (yr : Nat) (ym : Nat) (yd : Nat) (yt1 : Nat) (yt2 : Nat) (yt3 : Nat) (ytd : Nat) (ysr : Nat) (sa : Nat) (n : Nat) (rs : Nat) (ri : Nat) (wa : Nat) (nw : Nat) (fa : Nat) (nf : Nat) (qs : Nat) (qi : Nat) (ms : Nat) (mi : Nat) (c0 : Int) (cw : Int) (cf : Int) (c1 : Int) (c2 : Int) (f0 : Nat → Int32) (f1 : Nat → Int32) (f2 : Nat → Int32) (f3 : Nat → Int32) (f4 : Nat → Int32) (f5 : Nat → Int32) (pl : Int32) (pl2 : Int32) (tu : Int32) (tu2 : Int32) (hp0 : n < 1000000) (hp1 : 0 ≤ cw ∧ cw < 100000000) (hp2 : (cw + 7) / 8 ≤ (nw : Int)) (hp3 : nw < 1000000) (hp4 : 0 ≤ cf ∧ cf < 100000000) (hp5 : (cf + 7) / 8 ≤ (nf : Int)) (hp6 : nf < 1000000) : Ct l g yX7_clear (wM yX7_clear cX7_clear 1 none) (rmD 3 0 0) [.ref h0] [(h0, ob 7 [.int (iI kd), .int (iI w), .ref sm, .ref rw, .ref wr, .ref fd, .ref wt, .ref rd, .int (iI fi), .int (iI rp), .int (iI lo)]), (sm, ob 4 [.int (iI w), .ref sa]), (sa, aI g n f0), (rw, ob 2 [.ref rs, .ref ri, .int (iI c0)]), (rs, aI g 27 f1), (wr, ob 0 [.ref wa, .int (iI cw), .int pl, .int tu]), (wa, aB g nw f2), (fd, ob 0 [.ref fa, .int (iI cf), .int pl2, .int tu2]), (fa, aB g nf f3), (rd, ob 3 [.int (iI w), .ref yr, .ref ym, .ref yd, .ref yt1, .ref yt2, .ref yt3, .ref ytd, .ref ysr]), (yr, ob 2 [.ref qs, .ref qi, .int (iI c1)]), (qs, aI g 27 f4), (ym, ob 2 [.ref ms, .ref mi, .int (iI c2)]), (ms, aI g 27 f5)] (po_c_X7_clear g h0 kd w sm rw wr fd wt rd fi rp lo yr ym yd yt1 yt2 yt3 ytd ysr sa n rs ri wa nw fa nf qs qi ms mi c0 cw cf c1 c2 f0 f1 f2 f3 f4 f5 pl pl2 tu tu2) := by
  refine Ct_of (by decide +kernel) (Nat.le_of_ble_eq_true rfl) ?_
  intro p9 e9 s9 m9 ag9 bl9 mt9 c9 A9 fx hr hnm
  refine v_aload_n fx 0 dX7_clear_0 rfl rfl ?_
  refine v_get fx 0 2 inX7 k278 dX7_clear_1 rfl rfl (by decide) rfl rfl rfl ?_
  refine v_callV (As := []) (rest := []) fx [1, 2] [0, 3, 4, 5, 6, 7, 8, 9, 10, 11, 12, 13] [(sm, ob 4 [.int (iI w), .ref sa]), (sa, aI g n f0)] [(h0, ob 7 [.int (iI kd), .int (iI w), .ref sm, .ref rw, .ref wr, .ref fd, .ref wt, .ref rd, .int (iI fi), .int (iI rp), .int (iI lo)]), (rw, ob 2 [.ref rs, .ref ri, .int (iI c0)]), (rs, aI g 27 f1), (wr, ob 0 [.ref wa, .int (iI cw), .int pl, .int tu]), (wa, aB g nw f2), (fd, ob 0 [.ref fa, .int (iI cf), .int pl2, .int tu2]), (fa, aB g nf f3), (rd, ob 3 [.int (iI w), .ref yr, .ref ym, .ref yd, .ref yt1, .ref yt2, .ref yt3, .ref ytd, .ref ysr]), (yr, ob 2 [.ref qs, .ref qi, .int (iI c1)]), (qs, aI g 27 f4), (ym, ob 2 [.ref ms, .ref mi, .int (iI c2)]), (ms, aI g 27 f5)] 0 0 (c_X4_whiten l g sm sa n f0 (iI w) (by first | omega | decide | assumption)) dX7_clear_4 k347 k348 k349 k48 k350 ykX4_whiten rfl rfl rfl rfl rfl rfl rfl rfl (nl rfl) ⟨nl rfl, nl rfl⟩ ⟨(nl rfl), (nl rfl)⟩ rfl (fun v9 w9 hu => ?_)
  obtain ⟨f2_1, rfl, rfl⟩ := hu
  refine v_is (wn := [(h0, ob 7 [.int (iI kd), .int (iI w), .ref sm, .ref rw, .ref wr, .ref fd, .ref wt, .ref rd, .int (iI fi), .int (iI rp), .int (iI lo)]), (rw, ob 2 [.ref rs, .ref ri, .int (iI c0)]), (rs, aI g 27 f1), (wr, ob 0 [.ref wa, .int (iI cw), .int pl, .int tu]), (wa, aB g nw f2), (fd, ob 0 [.ref fa, .int (iI cf), .int pl2, .int tu2]), (fa, aB g nf f3), (rd, ob 3 [.int (iI w), .ref yr, .ref ym, .ref yd, .ref yt1, .ref yt2, .ref yt3, .ref ytd, .ref ysr]), (yr, ob 2 [.ref qs, .ref qi, .int (iI c1)]), (qs, aI g 27 f4), (ym, ob 2 [.ref ms, .ref mi, .int (iI c2)]), (ms, aI g 27 f5), (sm, ob 4 [.int (iI w), .ref sa]), (sa, aI g n f2_1)]) (cn := 0) (sn := 0) (sn2 := []) rfl rfl rfl rfl ?_
  refine v_aload_n fx 0 dX7_clear_7 rfl rfl ?_
  refine v_get fx 0 3 inX7 k279 dX7_clear_8 rfl rfl (by decide) rfl rfl rfl ?_
  refine v_callV (As := []) (rest := []) fx [1, 2] [0, 3, 4, 5, 6, 7, 8, 9, 10, 11, 12, 13] [(rw, ob 2 [.ref rs, .ref ri, .int (iI c0)]), (rs, aI g 27 f1)] [(h0, ob 7 [.int (iI kd), .int (iI w), .ref sm, .ref rw, .ref wr, .ref fd, .ref wt, .ref rd, .int (iI fi), .int (iI rp), .int (iI lo)]), (wr, ob 0 [.ref wa, .int (iI cw), .int pl, .int tu]), (wa, aB g nw f2), (fd, ob 0 [.ref fa, .int (iI cf), .int pl2, .int tu2]), (fa, aB g nf f3), (rd, ob 3 [.int (iI w), .ref yr, .ref ym, .ref yd, .ref yt1, .ref yt2, .ref yt3, .ref ytd, .ref ysr]), (yr, ob 2 [.ref qs, .ref qi, .int (iI c1)]), (qs, aI g 27 f4), (ym, ob 2 [.ref ms, .ref mi, .int (iI c2)]), (ms, aI g 27 f5), (sm, ob 4 [.int (iI w), .ref sa]), (sa, aI g n f2_1)] 0 0 (c_X2_removeAll l g rw rs ri c0 f1 ) dX7_clear_11 k962 k803 k804 k49 k805 ykX2_removeAll rfl rfl rfl rfl rfl rfl rfl rfl (nl rfl) ⟨nl rfl, nl rfl⟩ ⟨(nl rfl), (nl rfl)⟩ rfl (fun v9 w9 hu => ?_)
  obtain ⟨f2_2, rfl, rfl⟩ := hu
  refine v_is (wn := [(h0, ob 7 [.int (iI kd), .int (iI w), .ref sm, .ref rw, .ref wr, .ref fd, .ref wt, .ref rd, .int (iI fi), .int (iI rp), .int (iI lo)]), (wr, ob 0 [.ref wa, .int (iI cw), .int pl, .int tu]), (wa, aB g nw f2), (fd, ob 0 [.ref fa, .int (iI cf), .int pl2, .int tu2]), (fa, aB g nf f3), (rd, ob 3 [.int (iI w), .ref yr, .ref ym, .ref yd, .ref yt1, .ref yt2, .ref yt3, .ref ytd, .ref ysr]), (yr, ob 2 [.ref qs, .ref qi, .int (iI c1)]), (qs, aI g 27 f4), (ym, ob 2 [.ref ms, .ref mi, .int (iI c2)]), (ms, aI g 27 f5), (sm, ob 4 [.int (iI w), .ref sa]), (sa, aI g n f2_1), (rw, ob 2 [.ref rs, .ref ri, .int (iI 0)]), (rs, aI g 27 f2_2)]) (cn := 0) (sn := 0) (sn2 := []) rfl rfl rfl rfl ?_
  refine v_aload_n fx 0 dX7_clear_14 rfl rfl ?_
  refine v_get fx 0 4 inX7 k280 dX7_clear_15 rfl rfl (by decide) rfl rfl rfl ?_
  refine v_callV (As := []) (rest := []) fx [1, 2] [0, 3, 4, 5, 6, 7, 8, 9, 10, 11, 12, 13] [(wr, ob 0 [.ref wa, .int (iI cw), .int pl, .int tu]), (wa, aB g nw f2)] [(h0, ob 7 [.int (iI kd), .int (iI w), .ref sm, .ref rw, .ref wr, .ref fd, .ref wt, .ref rd, .int (iI fi), .int (iI rp), .int (iI lo)]), (fd, ob 0 [.ref fa, .int (iI cf), .int pl2, .int tu2]), (fa, aB g nf f3), (rd, ob 3 [.int (iI w), .ref yr, .ref ym, .ref yd, .ref yt1, .ref yt2, .ref yt3, .ref ytd, .ref ysr]), (yr, ob 2 [.ref qs, .ref qi, .int (iI c1)]), (qs, aI g 27 f4), (ym, ob 2 [.ref ms, .ref mi, .int (iI c2)]), (ms, aI g 27 f5), (sm, ob 4 [.int (iI w), .ref sa]), (sa, aI g n f2_1), (rw, ob 2 [.ref rs, .ref ri, .int (iI 0)]), (rs, aI g 27 f2_2)] 0 0 (c_X0_removeAll l g wr wa nw f2 cw pl tu (by first | omega | decide | assumption) (by first | omega | decide | assumption) (by first | omega | decide | assumption)) dX7_clear_18 k358 k359 k360 k50 k361 ykX0_removeAll rfl rfl rfl rfl rfl rfl rfl rfl (nl rfl) ⟨nl rfl, nl rfl⟩ ⟨(nl rfl), (nl rfl)⟩ rfl (fun v9 w9 hu => ?_)
  obtain ⟨f2_3, rfl, rfl⟩ := hu
  refine v_is (wn := [(h0, ob 7 [.int (iI kd), .int (iI w), .ref sm, .ref rw, .ref wr, .ref fd, .ref wt, .ref rd, .int (iI fi), .int (iI rp), .int (iI lo)]), (fd, ob 0 [.ref fa, .int (iI cf), .int pl2, .int tu2]), (fa, aB g nf f3), (rd, ob 3 [.int (iI w), .ref yr, .ref ym, .ref yd, .ref yt1, .ref yt2, .ref yt3, .ref ytd, .ref ysr]), (yr, ob 2 [.ref qs, .ref qi, .int (iI c1)]), (qs, aI g 27 f4), (ym, ob 2 [.ref ms, .ref mi, .int (iI c2)]), (ms, aI g 27 f5), (sm, ob 4 [.int (iI w), .ref sa]), (sa, aI g n f2_1), (rw, ob 2 [.ref rs, .ref ri, .int (iI 0)]), (rs, aI g 27 f2_2), (wr, ob 0 [.ref wa, .int (iI 0), .int (iI 0), .int tu]), (wa, aB g nw f2_3)]) (cn := 0) (sn := 0) (sn2 := []) rfl rfl rfl rfl ?_
  refine v_aload_n fx 0 dX7_clear_21 rfl rfl ?_
  refine v_get fx 0 5 inX7 k281 dX7_clear_22 rfl rfl (by decide) rfl rfl rfl ?_
  refine v_callV (As := []) (rest := []) fx [1, 2] [0, 3, 4, 5, 6, 7, 8, 9, 10, 11, 12, 13] [(fd, ob 0 [.ref fa, .int (iI cf), .int pl2, .int tu2]), (fa, aB g nf f3)] [(h0, ob 7 [.int (iI kd), .int (iI w), .ref sm, .ref rw, .ref wr, .ref fd, .ref wt, .ref rd, .int (iI fi), .int (iI rp), .int (iI lo)]), (rd, ob 3 [.int (iI w), .ref yr, .ref ym, .ref yd, .ref yt1, .ref yt2, .ref yt3, .ref ytd, .ref ysr]), (yr, ob 2 [.ref qs, .ref qi, .int (iI c1)]), (qs, aI g 27 f4), (ym, ob 2 [.ref ms, .ref mi, .int (iI c2)]), (ms, aI g 27 f5), (sm, ob 4 [.int (iI w), .ref sa]), (sa, aI g n f2_1), (rw, ob 2 [.ref rs, .ref ri, .int (iI 0)]), (rs, aI g 27 f2_2), (wr, ob 0 [.ref wa, .int (iI 0), .int (iI 0), .int tu]), (wa, aB g nw f2_3)] 0 0 (c_X0_removeAll l g fd fa nf f3 cf pl2 tu2 (by first | omega | decide | assumption) (by first | omega | decide | assumption) (by first | omega | decide | assumption)) dX7_clear_25 k358 k359 k360 k50 k361 ykX0_removeAll rfl rfl rfl rfl rfl rfl rfl rfl (nl rfl) ⟨nl rfl, nl rfl⟩ ⟨(nl rfl), (nl rfl)⟩ rfl (fun v9 w9 hu => ?_)
  obtain ⟨f2_4, rfl, rfl⟩ := hu
  refine v_is (wn := [(h0, ob 7 [.int (iI kd), .int (iI w), .ref sm, .ref rw, .ref wr, .ref fd, .ref wt, .ref rd, .int (iI fi), .int (iI rp), .int (iI lo)]), (rd, ob 3 [.int (iI w), .ref yr, .ref ym, .ref yd, .ref yt1, .ref yt2, .ref yt3, .ref ytd, .ref ysr]), (yr, ob 2 [.ref qs, .ref qi, .int (iI c1)]), (qs, aI g 27 f4), (ym, ob 2 [.ref ms, .ref mi, .int (iI c2)]), (ms, aI g 27 f5), (sm, ob 4 [.int (iI w), .ref sa]), (sa, aI g n f2_1), (rw, ob 2 [.ref rs, .ref ri, .int (iI 0)]), (rs, aI g 27 f2_2), (wr, ob 0 [.ref wa, .int (iI 0), .int (iI 0), .int tu]), (wa, aB g nw f2_3), (fd, ob 0 [.ref fa, .int (iI 0), .int (iI 0), .int tu2]), (fa, aB g nf f2_4)]) (cn := 0) (sn := 0) (sn2 := []) rfl rfl rfl rfl ?_
  refine v_aload_n fx 0 dX7_clear_28 rfl rfl ?_
  refine v_get fx 0 7 inX7 k283 dX7_clear_29 rfl rfl (by decide) rfl rfl rfl ?_
  refine v_callV (As := []) (rest := []) fx [1, 2, 3, 4, 5] [0, 6, 7, 8, 9, 10, 11, 12, 13] [(rd, ob 3 [.int (iI w), .ref yr, .ref ym, .ref yd, .ref yt1, .ref yt2, .ref yt3, .ref ytd, .ref ysr]), (yr, ob 2 [.ref qs, .ref qi, .int (iI c1)]), (qs, aI g 27 f4), (ym, ob 2 [.ref ms, .ref mi, .int (iI c2)]), (ms, aI g 27 f5)] [(h0, ob 7 [.int (iI kd), .int (iI w), .ref sm, .ref rw, .ref wr, .ref fd, .ref wt, .ref rd, .int (iI fi), .int (iI rp), .int (iI lo)]), (sm, ob 4 [.int (iI w), .ref sa]), (sa, aI g n f2_1), (rw, ob 2 [.ref rs, .ref ri, .int (iI 0)]), (rs, aI g 27 f2_2), (wr, ob 0 [.ref wa, .int (iI 0), .int (iI 0), .int tu]), (wa, aB g nw f2_3), (fd, ob 0 [.ref fa, .int (iI 0), .int (iI 0), .int tu2]), (fa, aB g nf f2_4)] 0 0 (c_X3_forget l g rd w yr ym yd yt1 yt2 yt3 ytd ysr qs qi ms mi c1 c2 f4 f5 ) dX7_clear_32 k912 k799 k800 k53 k801 ykX3_forget rfl rfl rfl rfl rfl rfl rfl rfl (nl rfl) ⟨nl rfl, nl rfl⟩ ⟨(nl rfl), (nl rfl)⟩ rfl (fun v9 w9 hu => ?_)
  obtain ⟨f2_5, f3_6, rfl, rfl⟩ := hu
  refine v_is (wn := [(h0, ob 7 [.int (iI kd), .int (iI w), .ref sm, .ref rw, .ref wr, .ref fd, .ref wt, .ref rd, .int (iI fi), .int (iI rp), .int (iI lo)]), (sm, ob 4 [.int (iI w), .ref sa]), (sa, aI g n f2_1), (rw, ob 2 [.ref rs, .ref ri, .int (iI 0)]), (rs, aI g 27 f2_2), (wr, ob 0 [.ref wa, .int (iI 0), .int (iI 0), .int tu]), (wa, aB g nw f2_3), (fd, ob 0 [.ref fa, .int (iI 0), .int (iI 0), .int tu2]), (fa, aB g nf f2_4), (rd, ob 3 [.int (iI w), .ref yr, .ref ym, .ref yd, .ref yt1, .ref yt2, .ref yt3, .ref ytd, .ref ysr]), (yr, ob 2 [.ref qs, .ref qi, .int (iI 0)]), (qs, aI g 27 f2_5), (ym, ob 2 [.ref ms, .ref mi, .int (iI 0)]), (ms, aI g 27 f3_6)]) (cn := 0) (sn := 0) (sn2 := []) rfl rfl rfl rfl ?_
  exact v_vret fx [(h0, ob 7 [.int (iI kd), .int (iI w), .ref sm, .ref rw, .ref wr, .ref fd, .ref wt, .ref rd, .int (iI fi), .int (iI rp), .int (iI lo)]), (sm, ob 4 [.int (iI w), .ref sa]), (sa, aI g n f2_1), (rw, ob 2 [.ref rs, .ref ri, .int (iI 0)]), (rs, aI g 27 f2_2), (wr, ob 0 [.ref wa, .int (iI 0), .int (iI 0), .int tu]), (wa, aB g nw f2_3), (fd, ob 0 [.ref fa, .int (iI 0), .int (iI 0), .int tu2]), (fa, aB g nf f2_4), (rd, ob 3 [.int (iI w), .ref yr, .ref ym, .ref yd, .ref yt1, .ref yt2, .ref yt3, .ref ytd, .ref ysr]), (yr, ob 2 [.ref qs, .ref qi, .int (iI 0)]), (qs, aI g 27 f2_5), (ym, ob 2 [.ref ms, .ref mi, .int (iI 0)]), (ms, aI g 27 f3_6)] [0, 1, 2, 3, 4, 5, 6, 7, 8, 9, 10, 11, 12, 13] hr dX7_clear_35 rfl rfl (nl rfl) (nl rfl) ⟨f2_1, f2_2, f2_3, f2_4, f2_5, f3_6, rfl, rfl⟩
