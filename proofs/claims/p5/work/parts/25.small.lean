/-! THE LAW'S SMALL METHODS -/
set_option maxRecDepth 20000 in
theorem k968 : (Jvm.Cond.codeWith ({ cls := "FaxRowsLaw", name := "at", desc := "(LFaxRows;II[J)I" } : Jvm.MethodName) method_3_code (5 : Nat) (Option.some Jvm.ClassFile.FieldType.int) [((0 : Nat), (17 : Nat), (20 : Nat), (13 : Nat))]) ∈ wT := wk (lwt_4 (List.mem_of_getElem? (i := 203) rfl)) rfl
theorem and15 (x : Int32) : ∃ z : Int, (0 ≤ z ∧ z < 16) ∧ x &&& iI 15 = iI z := by
  obtain ⟨j, hj, e⟩ := pk_andE x (m := iI 15) 4 (by decide +kernel)
  exact ⟨j, by omega, by rw [e, iI_nI]⟩
theorem clr_eq {c : Int} {F : Nat → Int} {fs : Nat → Int32} {n : Nat} (h : LB c F fs n) : fU F 1 0 ((0 : Int).toNat + 1) = fU F 1 0 (0 : Int).toNat := by
  show fU F 1 0 1 = fU F 1 0 0
  rw [fU_s, fU_c (by omega)]
  exact h.2.2.1.symm
theorem RI_none {w : Int} {F : Nat → Int} {fi : Nat → Int32} : RI w 0 F fi := fun l hl => by omega
theorem dL_cell_0 : decode cL_cell 0 = .ok (.iload_n 1, 1) := by decide +kernel
theorem dL_cell_1 : decode cL_cell 1 = .ok (.aload_n 0, 1) := by decide +kernel
theorem dL_cell_2 : decode cL_cell 2 = .ok (.arraylength, 1) := by decide +kernel
theorem dL_cell_3 : decode cL_cell 3 = .ok (.if_icmp .ge 9, 3) := by decide +kernel
theorem dL_cell_6 : decode cL_cell 6 = .ok (.aload_n 0, 1) := by decide +kernel
theorem dL_cell_7 : decode cL_cell 7 = .ok (.iload_n 1, 1) := by decide +kernel
theorem dL_cell_8 : decode cL_cell 8 = .ok (.iaload, 1) := by decide +kernel
theorem dL_cell_9 : decode cL_cell 9 = .ok (.goto 4, 3) := by decide +kernel
theorem dL_cell_12 : decode cL_cell 12 = .ok (.iconst 0, 1) := by decide +kernel
theorem dL_cell_13 : decode cL_cell 13 = .ok (.ireturn, 1) := by decide +kernel
abbrev po_c_L_cell (g : GG) (x : Int) : Option Value → va_W → Prop := fun v8 w8 => ∃ r : Int32, v8 = some (.int r) ∧ w8 = [] ∧ (r = g.2.2.2.2.getD x.toNat 0)
set_option maxHeartbeats 4000000 in
set_option maxRecDepth 100000 in
/-- an int of the script, or 0 -/
theorem c_L_cell (l : Launch) (g : GG) (x : Int) (hp0 : 0 ≤ x ∧ x < 100000) (hp1 : g.2.2.2.2.length ≤ 100000) : Ct l g yL_cell (wM yL_cell cL_cell 2 (some .int)) (rmD 0 0 0) [.ref g.2.2.2.1, .int (iI x)] [] (po_c_L_cell g x) := by
  refine Ct_of (by decide +kernel) (Nat.le_of_ble_eq_true rfl) ?_
  intro p9 e9 s9 m9 ag9 bl9 mt9 c9 A9 fx hr hnm
  refine v_iload_n fx 1 dL_cell_0 rfl rfl ?_
  refine v_aload_n fx 0 dL_cell_1 rfl rfl ?_
  refine v_slen fx (g.2.2.2.2.length : Int) rfl dL_cell_2 rfl ?_
  refine v_icmp_ge fx 12 dL_cell_3 (by decide) rfl (by omega) (by omega) (fun h_1 => ?_) (fun h_1 => ?_)
  ·
    refine v_iconst fx dL_cell_12 rfl ?_
    exact v_iret fx [] [] hr dL_cell_13 rfl rfl (nl rfl) (nl rfl) ⟨(iI 0), rfl, rfl, (by first | rfl | (rw [List.getD, List.getElem?_eq_none (by omega)]; rfl))⟩
  ·
    refine v_aload_n fx 0 dL_cell_6 rfl rfl ?_
    refine v_iload_n fx 1 dL_cell_7 rfl rfl ?_
    refine v_sald fx (by omega) dL_cell_8 rfl ?_
    refine v_goto fx 13 dL_cell_9 (by decide) ?_
    exact v_iret fx [] [] hr dL_cell_13 rfl rfl (nl rfl) (nl rfl) ⟨(g.2.2.2.2.getD (x).toNat 0), rfl, rfl, (by first | rfl | (rw [List.getD, List.getElem?_eq_none (by omega)]; rfl))⟩
theorem dL_at_0 : decode cL_at 0 = .ok (.aload_n 3, 1) := by decide +kernel
theorem dL_at_1 : decode cL_at 1 = .ok (.iconst 0, 1) := by decide +kernel
theorem dL_at_2 : decode cL_at 2 = .ok (.aload_n 0, 1) := by decide +kernel
theorem dL_at_3 : decode cL_at 3 = .ok (.iload_n 1, 1) := by decide +kernel
theorem dL_at_4 : decode cL_at 4 = .ok (.iload_n 2, 1) := by decide +kernel
theorem dL_at_5 : decode cL_at 5 = .ok (.invokevirtual 7, 3) := by decide +kernel
theorem dL_at_8 : decode cL_at 8 = .ok (.ifCond .eq 7, 3) := by decide +kernel
theorem dL_at_11 : decode cL_at 11 = .ok (.lconst 1, 1) := by decide +kernel
theorem dL_at_12 : decode cL_at 12 = .ok (.goto 4, 3) := by decide +kernel
theorem dL_at_15 : decode cL_at 15 = .ok (.lconst 0, 1) := by decide +kernel
theorem dL_at_16 : decode cL_at 16 = .ok (.lastore, 1) := by decide +kernel
theorem dL_at_17 : decode cL_at 17 = .ok (.goto 7, 3) := by decide +kernel
theorem dL_at_20 : decode cL_at 20 = .ok (.astore 4, 2) := by decide +kernel
theorem dL_at_22 : decode cL_at 22 = .ok (.iconst 1, 1) := by decide +kernel
theorem dL_at_23 : decode cL_at 23 = .ok (.ireturn, 1) := by decide +kernel
theorem dL_at_24 : decode cL_at 24 = .ok (.iconst 0, 1) := by decide +kernel
theorem dL_at_25 : decode cL_at 25 = .ok (.ireturn, 1) := by decide +kernel
abbrev po_c_L_at (g : GG) (h0 : Nat) (kd : Int) (w : Int) (sm : Nat) (r : Nat) (wr : Nat) (fd : Nat) (wt : Nat) (rd : Nat) (fl : Int) (rp : Int) (lo : Int) (yr : Nat) (ym : Nat) (yd : Nat) (t1 : Nat) (t2 : Nat) (t3 : Nat) (ytd : Nat) (src : Nat) (rs : Nat) (it : Nat) (m : Nat) (c : Int) (F : Nat → Int) (fs : Nat → Int32) (fi : Nat → Int32) (oa : Nat) (x : Int) (y : Int) (fo : Nat → Int64) : Option Value → va_W → Prop := fun v8 w8 => ∃ q : Int, ∃ f2 : Nat → Int64, v8 = some (.int (iI q)) ∧ w8 = [(h0, ob 7 [.int (iI kd), .int (iI w), .ref sm, .ref r, .ref wr, .ref fd, .ref wt, .ref rd, .int (iI fl), .int (iI rp), .int (iI lo)]), (rd, ob 3 [.int (iI w), .ref yr, .ref ym, .ref yd, .ref t1, .ref t2, .ref t3, .ref ytd, .ref src]), (yr, ob 2 [.ref rs, .ref it, .int (iI c)]), (rs, aI g 27 fs), (it, aI g m fi), (oa, aJ g 1 f2)] ∧ (0 ≤ q ∧ q ≤ 1)
set_option maxHeartbeats 4000000 in
set_option maxRecDepth 100000 in
theorem c_L_at (l : Launch) (g : GG) (h0 : Nat) (kd : Int) (w : Int) (sm : Nat) (r : Nat) (wr : Nat) (fd : Nat) (wt : Nat) (rd : Nat) (fl : Int) (rp : Int) (lo : Int) (yr : Nat) (ym : Nat) (yd : Nat) (t1 : Nat) (t2 : Nat) (t3 : Nat) (ytd : Nat) (src : Nat) (rs : Nat) (it : Nat) (m : Nat) (c : Int) (F : Nat → Int) (fs : Nat → Int32) (fi : Nat → Int32) (oa : Nat) (x : Int) (y : Int) (fo : Nat → Int64) (hp0 : LB c F fs m) (hp1 : -2147483648 ≤ x ∧ x < 2147483648) (hp2 : -2147483648 ≤ y ∧ y < 2147483648) (hp3 : 1 ≤ w ∧ w ≤ 3000) (hp4 : l.stackTraces = false) : Ct l g yL_at (wMW yL_at cL_at 5 (some .int) [(0, 17, 20, 13)]) (rmD 8 1 6) [.ref h0, .int (iI x), .int (iI y), .ref oa] [(h0, ob 7 [.int (iI kd), .int (iI w), .ref sm, .ref r, .ref wr, .ref fd, .ref wt, .ref rd, .int (iI fl), .int (iI rp), .int (iI lo)]), (rd, ob 3 [.int (iI w), .ref yr, .ref ym, .ref yd, .ref t1, .ref t2, .ref t3, .ref ytd, .ref src]), (yr, ob 2 [.ref rs, .ref it, .int (iI c)]), (rs, aI g 27 fs), (it, aI g m fi), (oa, aJ g 1 fo)] (po_c_L_at g h0 kd w sm r wr fd wt rd fl rp lo yr ym yd t1 t2 t3 ytd src rs it m c F fs fi oa x y fo) := by
  refine Ct_ofW (by decide +kernel) (Nat.le_of_ble_eq_true rfl) ?_
  intro p9 e9 s9 m9 ag9 bl9 mt9 c9 A9 fx hr hnm htb
  refine v_aload_n fx 3 dL_at_0 rfl rfl ?_
  refine v_iconst fx dL_at_1 rfl ?_
  refine v_aload_n fx 0 dL_at_2 rfl rfl ?_
  refine v_iload_n fx 1 dL_at_3 rfl rfl ?_
  refine v_iload_n fx 2 dL_at_4 rfl rfl ?_
  refine v_callVX (As := [.int (iI x), .int (iI y)]) (rest := [.int (iI 0), .ref oa]) fx [0, 1, 2, 3, 4] [5] [(h0, ob 7 [.int (iI kd), .int (iI w), .ref sm, .ref r, .ref wr, .ref fd, .ref wt, .ref rd, .int (iI fl), .int (iI rp), .int (iI lo)]), (rd, ob 3 [.int (iI w), .ref yr, .ref ym, .ref yd, .ref t1, .ref t2, .ref t3, .ref ytd, .ref src]), (yr, ob 2 [.ref rs, .ref it, .int (iI c)]), (rs, aI g 27 fs), (it, aI g m fi)] [(oa, aJ g 1 fo)] 2 0 (c_X7_at l g h0 kd w sm r wr fd wt rd fl rp lo yr ym yd t1 t2 t3 ytd src rs it m c F fs fi x y (by exact hp0) (by first | omega | decide | assumption) (by first | omega | decide | assumption) (by first | omega | decide | assumption) (by first | omega | decide | assumption)) dL_at_5 k970 k971 k972 k46 k973 ykX7_at rfl rfl rfl rfl rfl rfl rfl rfl (nl rfl) ⟨nl rfl, nl rfl⟩ ⟨(nl rfl), (nl rfl)⟩ rfl ⟨0, 17, 20, 13⟩ 20 htb rfl (by decide) k969 n374 rfl (fun v9 w9 hu => ?_) (fun q9 => ?_)
  ·
    obtain ⟨q_1, rfl, rfl, u_2⟩ := hu
    refine v_is (wn := [(oa, aJ g 1 fo), (h0, ob 7 [.int (iI kd), .int (iI w), .ref sm, .ref r, .ref wr, .ref fd, .ref wt, .ref rd, .int (iI fl), .int (iI rp), .int (iI lo)]), (rd, ob 3 [.int (iI w), .ref yr, .ref ym, .ref yd, .ref t1, .ref t2, .ref t3, .ref ytd, .ref src]), (yr, ob 2 [.ref rs, .ref it, .int (iI c)]), (rs, aI g 27 fs), (it, aI g m fi)]) (cn := 1) (sn := 6) (sn2 := [.int (iI q_1), .int (iI 0), .ref oa]) rfl rfl rfl rfl ?_
    refine v_if_eq fx 15 dL_at_8 (by decide) rfl (by omega) (fun h_3 => ?_) (fun h_3 => ?_)
    ·
      refine v_lconst fx 0 dL_at_15 rfl rfl ?_
      obtain ⟨f_4, ef_4⟩ : ∃ f9 : Nat → Int64, vp_updL fo (0 : Int).toNat 0 = f9 := ⟨_, rfl⟩
      refine v_last fx 0 f_4 [(oa, aJ g 1 f_4), (h0, ob 7 [.int (iI kd), .int (iI w), .ref sm, .ref r, .ref wr, .ref fd, .ref wt, .ref rd, .int (iI fl), .int (iI rp), .int (iI lo)]), (rd, ob 3 [.int (iI w), .ref yr, .ref ym, .ref yd, .ref t1, .ref t2, .ref t3, .ref ytd, .ref src]), (yr, ob 2 [.ref rs, .ref it, .int (iI c)]), (rs, aI g 27 fs), (it, aI g m fi)] dL_at_16 rfl (by omega) (by omega) ef_4 rfl rfl ?_
      refine v_goto fx 24 dL_at_17 (by decide) ?_
      refine v_iconst fx dL_at_24 rfl ?_
      exact v_iret fx [(h0, ob 7 [.int (iI kd), .int (iI w), .ref sm, .ref r, .ref wr, .ref fd, .ref wt, .ref rd, .int (iI fl), .int (iI rp), .int (iI lo)]), (rd, ob 3 [.int (iI w), .ref yr, .ref ym, .ref yd, .ref t1, .ref t2, .ref t3, .ref ytd, .ref src]), (yr, ob 2 [.ref rs, .ref it, .int (iI c)]), (rs, aI g 27 fs), (it, aI g m fi), (oa, aJ g 1 f_4)] [1, 2, 3, 4, 5, 0] hr dL_at_25 rfl rfl (nl rfl) (nl rfl) ⟨0, f_4, rfl, rfl, (by first | omega | rfl | assumption)⟩
    ·
      refine v_lconst fx 1 dL_at_11 rfl rfl ?_
      refine v_goto fx 16 dL_at_12 (by decide) ?_
      obtain ⟨f_5, ef_5⟩ : ∃ f9 : Nat → Int64, vp_updL fo (0 : Int).toNat 1 = f9 := ⟨_, rfl⟩
      refine v_last fx 0 f_5 [(oa, aJ g 1 f_5), (h0, ob 7 [.int (iI kd), .int (iI w), .ref sm, .ref r, .ref wr, .ref fd, .ref wt, .ref rd, .int (iI fl), .int (iI rp), .int (iI lo)]), (rd, ob 3 [.int (iI w), .ref yr, .ref ym, .ref yd, .ref t1, .ref t2, .ref t3, .ref ytd, .ref src]), (yr, ob 2 [.ref rs, .ref it, .int (iI c)]), (rs, aI g 27 fs), (it, aI g m fi)] dL_at_16 rfl (by omega) (by omega) ef_5 rfl rfl ?_
      refine v_goto fx 24 dL_at_17 (by decide) ?_
      refine v_iconst fx dL_at_24 rfl ?_
      exact v_iret fx [(h0, ob 7 [.int (iI kd), .int (iI w), .ref sm, .ref r, .ref wr, .ref fd, .ref wt, .ref rd, .int (iI fl), .int (iI rp), .int (iI lo)]), (rd, ob 3 [.int (iI w), .ref yr, .ref ym, .ref yd, .ref t1, .ref t2, .ref t3, .ref ytd, .ref src]), (yr, ob 2 [.ref rs, .ref it, .int (iI c)]), (rs, aI g 27 fs), (it, aI g m fi), (oa, aJ g 1 f_5)] [1, 2, 3, 4, 5, 0] hr dL_at_25 rfl rfl (nl rfl) (nl rfl) ⟨0, f_5, rfl, rfl, (by first | omega | rfl | assumption)⟩
  ·
    refine v_is (wn := [(oa, aJ g 1 fo), (h0, ob 7 [.int (iI kd), .int (iI w), .ref sm, .ref r, .ref wr, .ref fd, .ref wt, .ref rd, .int (iI fl), .int (iI rp), .int (iI lo)]), (rd, ob 3 [.int (iI w), .ref yr, .ref ym, .ref yd, .ref t1, .ref t2, .ref t3, .ref ytd, .ref src]), (yr, ob 2 [.ref rs, .ref it, .int (iI c)]), (rs, aI g 27 fs), (it, aI g m fi)]) (cn := 1) (sn := 6) (sn2 := [.ref q9]) rfl rfl rfl rfl ?_
    refine v_astore fx [(4, .ref q9), (0, .ref h0), (1, .int (iI x)), (2, .int (iI y)), (3, .ref oa)] dL_at_20 (by decide) rfl rfl ?_
    refine v_iconst fx dL_at_22 rfl ?_
    exact v_iret fx [(h0, ob 7 [.int (iI kd), .int (iI w), .ref sm, .ref r, .ref wr, .ref fd, .ref wt, .ref rd, .int (iI fl), .int (iI rp), .int (iI lo)]), (rd, ob 3 [.int (iI w), .ref yr, .ref ym, .ref yd, .ref t1, .ref t2, .ref t3, .ref ytd, .ref src]), (yr, ob 2 [.ref rs, .ref it, .int (iI c)]), (rs, aI g 27 fs), (it, aI g m fi), (oa, aJ g 1 fo)] [1, 2, 3, 4, 5, 0] hr dL_at_23 rfl rfl (nl rfl) (nl rfl) ⟨1, fo, rfl, rfl, (by first | omega | rfl | assumption)⟩
