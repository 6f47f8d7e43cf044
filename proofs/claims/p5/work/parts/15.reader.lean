/-! THE READER -/
theorem inc_tight {fi : Nat → Int32} {a e x : Int} (h : inc fi a e (x + 1)) (hl : a < e → vl fi (e - 1) < x) : inc fi a e x := by
  intro i h1 h2
  have h3 := h i h1 h2
  have h4 := hl (by omega)
  refine ⟨⟨h3.1.1, ?_⟩, h3.2⟩
  by_cases q : i = e - 1
  · rw [q]; exact h4
  · have := (h (e - 1) (by omega) (by omega)).2 i h1 (by omega)
    omega
theorem fU_at {F : Nat → Int} {c : Nat} {v : Int} : fU F (c + 1) v c = F c := fU_b
theorem TI_F {F : Nat → Int} {fi : Nat → Int32} {c e ab nx a0 : Int} (h0 : 0 ≤ c) (hab : -1 ≤ ab ∧ ab < c) (h : TI F fi ab nx a0) : TI (fU F (c.toNat + 1) e) fi ab nx a0 := by
  intro i h1 h2 h3
  rw [fU_c (by omega)] at h2 h3
  exact h i h1 h2 h3
theorem TI_F2 {F : Nat → Int} {fi : Nat → Int32} {c e ab nx a0 : Int} (h0 : 0 ≤ c) (hab : -1 ≤ ab ∧ ab < c) (h : TI (fU F (c.toNat + 1) e) fi ab nx a0) : TI F fi ab nx a0 := by
  intro i h1 h2 h3
  refine h i h1 ?_ ?_
  · rw [fU_c (by omega)]; exact h2
  · rw [fU_c (by omega)]; exact h3
theorem TI_keep {F : Nat → Int} {fi g2 : Nat → Int32} {c e ab nx a0 : Int} {fs : Nat → Int32} {m : Nat} (hL : LB c (fU F (c.toNat + 1) e) fs m) (hab : -1 ≤ ab ∧ ab < c) (hnx : 0 ≤ nx) (hk : ∀ j : Nat, (j : Int) < F c.toNat → g2 j = fi j) (h : TI F fi ab nx a0) : TI F g2 ab nx a0 := by
  intro i h1 h2 h3
  have hc := hL.1
  have u1 := LB_up hL (c.toNat - (ab.toNat + 1)) (ab.toNat + 1) (by omega)
  rw [show ab.toNat + 1 + (c.toNat - (ab.toNat + 1)) = c.toNat by omega, fU_b, fU_c (by omega)] at u1
  have u2 := LB_pos hL (x := ab) (by omega)
  rw [fU_c (by omega)] at u2
  have := h i h1 h2 h3
  unfold vl at this ⊢
  rw [hk i.toNat (by omega)]
  exact this
/-- the beginnings below the open list's end say as much as F -/
theorem LB_F {c : Int} {F : Nat → Int} {e : Int} {fs : Nat → Int32} {m : Nat} (h : LB c (fU F (c.toNat + 1) e) fs m) : 0 ≤ c ∧ c ≤ 25 ∧ 0 ≤ F c.toNat ∧ F c.toNat ≤ e ∧ e ≤ m := by
  have h1 := LB_len h (x := c) (by have := h.1; omega)
  rw [fU_b, fU_s] at h1
  have := h.1
  omega
theorem RI_F {w c : Int} {F : Nat → Int} {e : Int} {fi : Nat → Int32} (h0 : 0 ≤ c) (h : RI w c F fi) : RI w c (fU F (c.toNat + 1) e) fi := by
  intro l hl
  rw [fU_c (by omega), fU_c (by omega)]
  exact h l hl
theorem RI_F2 {w c : Int} {F : Nat → Int} {e : Int} {fi : Nat → Int32} (h0 : 0 ≤ c) (h : RI w c (fU F (c.toNat + 1) e) fi) : RI w c F fi := by
  intro l hl
  have := h l hl
  rw [fU_c (by omega), fU_c (by omega)] at this
  exact this
theorem RI_lenF {w c : Int} {F : Nat → Int} {e : Int} {fs : Nat → Int32} {m : Nat} {fi : Nat → Int32} (hL : LB c (fU F (c.toNat + 1) e) fs m) (h : RI w c F fi) (hw : 0 ≤ w ∧ w ≤ 3000) : F c.toNat ≤ 3000 * c := by
  have hc := hL.1
  have := RI_len hL (RI_F hc.1 h) hw c.toNat (by omega)
  rw [fU_b] at this
  omega
theorem RI_keepF {w c : Int} {F : Nat → Int} {e : Int} {fs : Nat → Int32} {m : Nat} {fi f2 : Nat → Int32} (hL : LB c (fU F (c.toNat + 1) e) fs m) (h : RI w c F fi) (hk : ∀ j : Nat, (j : Int) < e → f2 j = fi j) : RI w c F f2 := by
  have hc := hL.1
  have h1 := RI_keep hL (RI_F hc.1 h) (E := e) (by rw [fU_b]; have := LB_F hL; omega) hk e
  rw [fU_fU] at h1
  exact RI_F2 hc.1 h1
theorem dX1_read_0 : decode cX1_read 0 = .ok (.iconst 0, 1) := by decide +kernel
theorem dX1_read_1 : decode cX1_read 1 = .ok (.istore_n 2, 1) := by decide +kernel
theorem dX1_read_2 : decode cX1_read 2 = .ok (.iconst 0, 1) := by decide +kernel
theorem dX1_read_3 : decode cX1_read 3 = .ok (.istore_n 3, 1) := by decide +kernel
theorem dX1_read_4 : decode cX1_read 4 = .ok (.iload_n 3, 1) := by decide +kernel
theorem dX1_read_5 : decode cX1_read 5 = .ok (.aload_n 1, 1) := by decide +kernel
theorem dX1_read_6 : decode cX1_read 6 = .ok (.invokevirtual 44, 3) := by decide +kernel
theorem dX1_read_9 : decode cX1_read 9 = .ok (.if_icmp .ge 48, 3) := by decide +kernel
theorem dX1_read_12 : decode cX1_read 12 = .ok (.aload_n 0, 1) := by decide +kernel
theorem dX1_read_13 : decode cX1_read 13 = .ok (.iload_n 2, 1) := by decide +kernel
theorem dX1_read_14 : decode cX1_read 14 = .ok (.aload_n 1, 1) := by decide +kernel
theorem dX1_read_15 : decode cX1_read 15 = .ok (.iload_n 3, 1) := by decide +kernel
theorem dX1_read_16 : decode cX1_read 16 = .ok (.invokevirtual 50, 3) := by decide +kernel
theorem dX1_read_19 : decode cX1_read 19 = .ok (.invokevirtual 35, 3) := by decide +kernel
theorem dX1_read_22 : decode cX1_read 22 = .ok (.istore 4, 2) := by decide +kernel
theorem dX1_read_24 : decode cX1_read 24 = .ok (.iload 4, 2) := by decide +kernel
theorem dX1_read_26 : decode cX1_read 26 = .ok (.ifCond .ne 5, 3) := by decide +kernel
theorem dX1_read_29 : decode cX1_read 29 = .ok (.iconst (-1), 1) := by decide +kernel
theorem dX1_read_30 : decode cX1_read 30 = .ok (.ireturn, 1) := by decide +kernel
theorem dX1_read_31 : decode cX1_read 31 = .ok (.iload 4, 2) := by decide +kernel
theorem dX1_read_33 : decode cX1_read 33 = .ok (.ifCond .ge 15, 3) := by decide +kernel
theorem dX1_read_36 : decode cX1_read 36 = .ok (.aload_n 1, 1) := by decide +kernel
theorem dX1_read_37 : decode cX1_read 37 = .ok (.iload_n 3, 1) := by decide +kernel
theorem dX1_read_38 : decode cX1_read 38 = .ok (.iconst 1, 1) := by decide +kernel
theorem dX1_read_39 : decode cX1_read 39 = .ok (.iadd, 1) := by decide +kernel
theorem dX1_read_40 : decode cX1_read 40 = .ok (.invokevirtual 54, 3) := by decide +kernel
theorem dX1_read_43 : decode cX1_read 43 = .ok (.iconst (-1), 1) := by decide +kernel
theorem dX1_read_44 : decode cX1_read 44 = .ok (.iload 4, 2) := by decide +kernel
theorem dX1_read_46 : decode cX1_read 46 = .ok (.isub, 1) := by decide +kernel
theorem dX1_read_47 : decode cX1_read 47 = .ok (.ireturn, 1) := by decide +kernel
theorem dX1_read_48 : decode cX1_read 48 = .ok (.iload 4, 2) := by decide +kernel
theorem dX1_read_50 : decode cX1_read 50 = .ok (.istore_n 2, 1) := by decide +kernel
theorem dX1_read_51 : decode cX1_read 51 = .ok (.iinc 3 1, 3) := by decide +kernel
theorem dX1_read_54 : decode cX1_read 54 = .ok (.goto (-50), 3) := by decide +kernel
theorem dX1_read_57 : decode cX1_read 57 = .ok (.iconst (-1), 1) := by decide +kernel
theorem dX1_read_58 : decode cX1_read 58 = .ok (.ireturn, 1) := by decide +kernel
abbrev po_c_X1_read (g : GG) (h0 : Nat) (h1 : Nat) (k0 : Nat) (fk : Nat → Int32) (nd : Int32) (src : Nat) (ba : Nat) (n : Nat) (f : Nat → Int32) (cb : Int) (pl : Int) (tu : Int) : Option Value → va_W → Prop := fun v8 w8 => ∃ q : Int, ∃ p2_ : Int, v8 = some (.int (iI q)) ∧ w8 = [(h0, ob 1 [.ref h1, .int nd]), (h1, aI g k0 fk), (src, ob 0 [.ref ba, .int (iI cb), .int (iI p2_), .int (iI tu)]), (ba, aB g n f)] ∧ ((q = -1 ∧ p2_ = pl) ∨ (0 ≤ q ∧ q ≤ 104 ∧ pl < p2_ ∧ p2_ ≤ cb))
set_option maxHeartbeats 4000000 in
set_option maxRecDepth 100000 in
/-- the number of the code that comes next -/
theorem c_X1_read (l : Launch) (g : GG) (h0 : Nat) (h1 : Nat) (k0 : Nat) (fk : Nat → Int32) (nd : Int32) (src : Nat) (ba : Nat) (n : Nat) (f : Nat → Int32) (cb : Int) (pl : Int) (tu : Int) (hp0 : 0 ≤ cb ∧ cb ≤ 8 * (n : Int) ∧ 64 ≤ n ∧ n ≤ 130000 ∧ cb ≤ 508000) (hp1 : bF f) (hp2 : 0 ≤ pl ∧ pl ≤ cb) (hp3 : k0 < 1000000000) (hp4 : lo fk) : Ct l g yX1_read (wM yX1_read cX1_read 5 (some .int)) (rmD 1 0 0) [.ref h0, .ref src] [(h0, ob 1 [.ref h1, .int nd]), (h1, aI g k0 fk), (src, ob 0 [.ref ba, .int (iI cb), .int (iI pl), .int (iI tu)]), (ba, aB g n f)] (po_c_X1_read g h0 h1 k0 fk nd src ba n f cb pl tu) := by
  refine Ct_of (by decide +kernel) (Nat.le_of_ble_eq_true rfl) ?_
  intro p9 e9 s9 m9 ag9 bl9 mt9 c9 A9 fx hr hnm
  refine v_iconst fx dX1_read_0 rfl ?_
  refine v_istore_n fx [(2, .int (iI 0)), (0, .ref h0), (1, .ref src)] dX1_read_1 (by decide) rfl rfl ?_
  refine v_iconst fx dX1_read_2 rfl ?_
  refine v_istore_n fx [(3, .int (iI 0)), (2, .int (iI 0)), (0, .ref h0), (1, .ref src)] dX1_read_3 (by decide) rfl rfl ?_
  have L4 : ∀ (N : Nat) (a : Int) (nb : Int), (0 ≤ a ∧ a ≤ cb - pl) → (-2147483648 ≤ nb ∧ nb < 2147483648) → ((cb - pl - a).toNat) < N → V p9 l e9 (rmD 1 0 0) s9 m9 ag9 bl9 mt9 c9 5 g A9 (MQ bl9 (cQ g (po_c_X1_read g h0 h1 k0 fk nd src ba n f cb pl tu) A9) ag9 s9 0 0 A9) [(h0, ob 1 [.ref h1, .int nd]), (h1, aI g k0 fk), (src, ob 0 [.ref ba, .int (iI cb), .int (iI pl), .int (iI tu)]), (ba, aB g n f)] 0 0 [(0, .ref h0), (1, .ref src), (2, .int (iI nb)), (3, .int (iI a))] 4 [] := by
    intro N
    induction N with
    | zero => intro a nb hi4_0 hi4_1 hN; exact absurd hN (Nat.not_lt_zero _)
    | succ N ihL4 =>
      intro a nb hi4_0 hi4_1 hN4
      refine v_iload_n fx 3 dX1_read_4 rfl rfl ?_
      refine v_aload_n fx 1 dX1_read_5 rfl rfl ?_
      refine v_callV (As := []) (rest := [.int (iI a)]) fx [2] [0, 1, 3] [(src, ob 0 [.ref ba, .int (iI cb), .int (iI pl), .int (iI tu)])] [(h0, ob 1 [.ref h1, .int nd]), (h1, aI g k0 fk), (ba, aB g n f)] 0 0 (c_X0_left l g src ba cb pl tu ) dX1_read_6 k829 k821 k822 k50 k823 ykX0_left rfl rfl rfl rfl rfl rfl rfl rfl (nl rfl) ⟨nl rfl, nl rfl⟩ ⟨(nl rfl), (nl rfl)⟩ rfl (fun v9 w9 hu => ?_)
      obtain ⟨rfl, rfl⟩ := hu
      refine v_is (wn := [(h0, ob 1 [.ref h1, .int nd]), (h1, aI g k0 fk), (ba, aB g n f), (src, ob 0 [.ref ba, .int (iI cb), .int (iI pl), .int (iI tu)])]) (cn := 0) (sn := 0) (sn2 := [.int (iI (cb - pl)), .int (iI a)]) rfl rfl rfl rfl ?_
      refine v_icmp_ge fx 57 dX1_read_9 (by decide) rfl (by omega) (by omega) (fun h_1 => ?_) (fun h_1 => ?_)
      ·
        refine v_iconst fx dX1_read_57 rfl ?_
        exact v_iret fx [(h0, ob 1 [.ref h1, .int nd]), (h1, aI g k0 fk), (src, ob 0 [.ref ba, .int (iI cb), .int (iI pl), .int (iI tu)]), (ba, aB g n f)] [0, 1, 3, 2] hr dX1_read_58 rfl rfl (nl rfl) (nl rfl) ⟨(-1), pl, rfl, rfl, (by first | omega | rfl | assumption)⟩
      ·
        refine v_aload_n fx 0 dX1_read_12 rfl rfl ?_
        refine v_iload_n fx 2 dX1_read_13 rfl rfl ?_
        refine v_aload_n fx 1 dX1_read_14 rfl rfl ?_
        refine v_iload_n fx 3 dX1_read_15 rfl rfl ?_
        refine v_callV (As := [.int (iI a)]) (rest := [.int (iI nb), .ref h0]) fx [3, 2] [0, 1] [(src, ob 0 [.ref ba, .int (iI cb), .int (iI pl), .int (iI tu)]), (ba, aB g n f)] [(h0, ob 1 [.ref h1, .int nd]), (h1, aI g k0 fk)] 1 0 (c_X0_isOne l g src ba n f cb pl tu a (by first | omega | decide | assumption) (by exact hp1) (by first | omega | decide | assumption) (by first | omega | decide | assumption)) dX1_read_16 k830 k831 k832 k50 k833 ykX0_isOne rfl rfl rfl rfl rfl rfl rfl rfl (nl rfl) ⟨nl rfl, nl rfl⟩ ⟨(nl rfl), (nl rfl)⟩ rfl (fun v9 w9 hu => ?_)
        obtain ⟨r_2, rfl, rfl, u_3⟩ := hu
        refine v_is (wn := [(h0, ob 1 [.ref h1, .int nd]), (h1, aI g k0 fk), (src, ob 0 [.ref ba, .int (iI cb), .int (iI pl), .int (iI tu)]), (ba, aB g n f)]) (cn := 0) (sn := 0) (sn2 := [.int (iI r_2), .int (iI nb), .ref h0]) rfl rfl rfl rfl ?_
        refine v_callV (As := [.int (iI nb), .int (iI r_2)]) (rest := []) fx [0, 1] [2, 3] [(h0, ob 1 [.ref h1, .int nd]), (h1, aI g k0 fk)] [(src, ob 0 [.ref ba, .int (iI cb), .int (iI pl), .int (iI tu)]), (ba, aB g n f)] 2 0 (c_X1_branch l g h0 h1 k0 fk nd nb r_2 (by first | omega | decide | assumption) (by first | omega | decide | assumption) (by first | omega | decide | assumption) (by exact hp4)) dX1_read_19 k218 k220 k2 k54 k221 ykX1_branch rfl rfl rfl rfl rfl rfl rfl rfl (nl rfl) ⟨nl rfl, nl rfl⟩ ⟨(nl rfl), (nl rfl)⟩ rfl (fun v9 w9 hu => ?_)
        obtain ⟨r_4, rfl, rfl, u_5⟩ := hu
        refine v_is (wn := [(src, ob 0 [.ref ba, .int (iI cb), .int (iI pl), .int (iI tu)]), (ba, aB g n f), (h0, ob 1 [.ref h1, .int nd]), (h1, aI g k0 fk)]) (cn := 0) (sn := 0) (sn2 := [.int (iI r_4)]) rfl rfl rfl rfl ?_
        refine v_istore fx [(4, .int (iI r_4)), (0, .ref h0), (1, .ref src), (2, .int (iI nb)), (3, .int (iI a))] dX1_read_22 (by decide) rfl rfl ?_
        refine v_iload fx 0 dX1_read_24 rfl rfl ?_
        refine v_if_ne fx 31 dX1_read_26 (by decide) rfl (by omega) (fun h_6 => ?_) (fun h_6 => ?_)
        ·
          refine v_iload fx 0 dX1_read_31 rfl rfl ?_
          refine v_if_ge fx 48 dX1_read_33 (by decide) rfl (by omega) (fun h_7 => ?_) (fun h_7 => ?_)
          ·
            refine v_iload fx 0 dX1_read_48 rfl rfl ?_
            refine v_istore_n fx [(2, .int (iI r_4)), (4, .int (iI r_4)), (0, .ref h0), (1, .ref src), (3, .int (iI a))] dX1_read_50 (by decide) rfl rfl ?_
            refine v_iinc fx 4 (a + 1) [(3, .int (iI (a + 1))), (2, .int (iI r_4)), (4, .int (iI r_4)), (0, .ref h0), (1, .ref src)] dX1_read_51 rfl (by omega) (by decide) rfl rfl ?_
            refine v_goto fx 4 dX1_read_54 (by decide) ?_
            refine v_ws [2, 3, 0, 1] [(h0, ob 1 [.ref h1, .int nd]), (h1, aI g k0 fk), (src, ob 0 [.ref ba, .int (iI cb), .int (iI pl), .int (iI tu)]), (ba, aB g n f)] rfl rfl ?_
            refine v_lv [3, 4, 1, 0] [(0, .ref h0), (1, .ref src), (2, .int (iI r_4)), (3, .int (iI (a + 1)))] rfl ?_
            exact ihL4 (a + 1) r_4 (by omega) (by omega) (by omega)
          ·
            refine v_aload_n fx 2 dX1_read_36 rfl rfl ?_
            refine v_iload_n fx 4 dX1_read_37 rfl rfl ?_
            refine v_iconst fx dX1_read_38 rfl ?_
            refine v_iadd fx (a + 1) dX1_read_39 (by rfl) rfl ?_
            refine v_callV (As := [.int (iI (a + 1))]) (rest := []) fx [0] [1, 2, 3] [(src, ob 0 [.ref ba, .int (iI cb), .int (iI pl), .int (iI tu)])] [(ba, aB g n f), (h0, ob 1 [.ref h1, .int nd]), (h1, aI g k0 fk)] 1 0 (c_X0_skip l g src ba cb pl tu (a + 1) ) dX1_read_40 k834 k835 k836 k50 k837 ykX0_skip rfl rfl rfl rfl rfl rfl rfl rfl (nl rfl) ⟨nl rfl, nl rfl⟩ ⟨(nl rfl), (nl rfl)⟩ rfl (fun v9 w9 hu => ?_)
            obtain ⟨rfl, rfl⟩ := hu
            refine v_is (wn := [(ba, aB g n f), (h0, ob 1 [.ref h1, .int nd]), (h1, aI g k0 fk), (src, ob 0 [.ref ba, .int (iI cb), .int (iI (pl + (a + 1))), .int (iI tu)])]) (cn := 0) (sn := 0) (sn2 := []) rfl rfl rfl rfl ?_
            refine v_iconst fx dX1_read_43 rfl ?_
            refine v_iload fx 0 dX1_read_44 rfl rfl ?_
            refine v_isub fx ((-1) - r_4) dX1_read_46 (by rfl) rfl ?_
            exact v_iret fx [(h0, ob 1 [.ref h1, .int nd]), (h1, aI g k0 fk), (src, ob 0 [.ref ba, .int (iI cb), .int (iI (pl + (a + 1))), .int (iI tu)]), (ba, aB g n f)] [1, 2, 3, 0] hr dX1_read_47 rfl rfl (nl rfl) (nl rfl) ⟨((-1) - r_4), (pl + (a + 1)), rfl, rfl, (by first | omega | rfl | assumption)⟩
        ·
          refine v_iconst fx dX1_read_29 rfl ?_
          exact v_iret fx [(h0, ob 1 [.ref h1, .int nd]), (h1, aI g k0 fk), (src, ob 0 [.ref ba, .int (iI cb), .int (iI pl), .int (iI tu)]), (ba, aB g n f)] [2, 3, 0, 1] hr dX1_read_30 rfl rfl (nl rfl) (nl rfl) ⟨(-1), pl, rfl, rfl, (by first | omega | rfl | assumption)⟩
  refine v_lv [2, 3, 1, 0] [(0, .ref h0), (1, .ref src), (2, .int (iI 0)), (3, .int (iI 0))] rfl ?_
  exact L4 _ 0 0 (by omega) (by omega) (Nat.lt_succ_self _)
theorem dX3_readRun_0 : decode cX3_readRun 0 = .ok (.iload_n 1, 1) := by decide +kernel
theorem dX3_readRun_1 : decode cX3_readRun 1 = .ok (.ifCond .eq 10, 3) := by decide +kernel
theorem dX3_readRun_4 : decode cX3_readRun 4 = .ok (.aload_n 0, 1) := by decide +kernel
theorem dX3_readRun_5 : decode cX3_readRun 5 = .ok (.getfield 32, 3) := by decide +kernel
theorem dX3_readRun_8 : decode cX3_readRun 8 = .ok (.goto 7, 3) := by decide +kernel
theorem dX3_readRun_11 : decode cX3_readRun 11 = .ok (.aload_n 0, 1) := by decide +kernel
theorem dX3_readRun_12 : decode cX3_readRun 12 = .ok (.getfield 28, 3) := by decide +kernel
theorem dX3_readRun_15 : decode cX3_readRun 15 = .ok (.astore_n 2, 1) := by decide +kernel
theorem dX3_readRun_16 : decode cX3_readRun 16 = .ok (.iconst 0, 1) := by decide +kernel
theorem dX3_readRun_17 : decode cX3_readRun 17 = .ok (.istore_n 3, 1) := by decide +kernel
theorem dX3_readRun_18 : decode cX3_readRun 18 = .ok (.aload_n 0, 1) := by decide +kernel
theorem dX3_readRun_19 : decode cX3_readRun 19 = .ok (.getfield 59, 3) := by decide +kernel
theorem dX3_readRun_22 : decode cX3_readRun 22 = .ok (.invokevirtual 99, 3) := by decide +kernel
theorem dX3_readRun_25 : decode cX3_readRun 25 = .ok (.istore 4, 2) := by decide +kernel
theorem dX3_readRun_27 : decode cX3_readRun 27 = .ok (.iload 4, 2) := by decide +kernel
theorem dX3_readRun_29 : decode cX3_readRun 29 = .ok (.ifCond .le 50, 3) := by decide +kernel
theorem dX3_readRun_32 : decode cX3_readRun 32 = .ok (.aload_n 2, 1) := by decide +kernel
theorem dX3_readRun_33 : decode cX3_readRun 33 = .ok (.aload_n 0, 1) := by decide +kernel
theorem dX3_readRun_34 : decode cX3_readRun 34 = .ok (.getfield 59, 3) := by decide +kernel
theorem dX3_readRun_37 : decode cX3_readRun 37 = .ok (.invokevirtual 148, 3) := by decide +kernel
theorem dX3_readRun_40 : decode cX3_readRun 40 = .ok (.istore 5, 2) := by decide +kernel
theorem dX3_readRun_42 : decode cX3_readRun 42 = .ok (.iload 5, 2) := by decide +kernel
theorem dX3_readRun_44 : decode cX3_readRun 44 = .ok (.iconst (-1), 1) := by decide +kernel
theorem dX3_readRun_45 : decode cX3_readRun 45 = .ok (.if_icmp .ne 5, 3) := by decide +kernel
theorem dX3_readRun_48 : decode cX3_readRun 48 = .ok (.iconst (-1), 1) := by decide +kernel
theorem dX3_readRun_49 : decode cX3_readRun 49 = .ok (.ireturn, 1) := by decide +kernel
theorem dX3_readRun_50 : decode cX3_readRun 50 = .ok (.iload 5, 2) := by decide +kernel
theorem dX3_readRun_52 : decode cX3_readRun 52 = .ok (.bipush 64, 2) := by decide +kernel
theorem dX3_readRun_54 : decode cX3_readRun 54 = .ok (.if_icmp .ge 8, 3) := by decide +kernel
theorem dX3_readRun_57 : decode cX3_readRun 57 = .ok (.iload_n 3, 1) := by decide +kernel
theorem dX3_readRun_58 : decode cX3_readRun 58 = .ok (.iload 5, 2) := by decide +kernel
theorem dX3_readRun_60 : decode cX3_readRun 60 = .ok (.iadd, 1) := by decide +kernel
theorem dX3_readRun_61 : decode cX3_readRun 61 = .ok (.ireturn, 1) := by decide +kernel
theorem dX3_readRun_62 : decode cX3_readRun 62 = .ok (.iload_n 3, 1) := by decide +kernel
theorem dX3_readRun_63 : decode cX3_readRun 63 = .ok (.iload 5, 2) := by decide +kernel
theorem dX3_readRun_65 : decode cX3_readRun 65 = .ok (.bipush 63, 2) := by decide +kernel
theorem dX3_readRun_67 : decode cX3_readRun 67 = .ok (.isub, 1) := by decide +kernel
theorem dX3_readRun_68 : decode cX3_readRun 68 = .ok (.bipush 64, 2) := by decide +kernel
theorem dX3_readRun_70 : decode cX3_readRun 70 = .ok (.imul, 1) := by decide +kernel
theorem dX3_readRun_71 : decode cX3_readRun 71 = .ok (.iadd, 1) := by decide +kernel
theorem dX3_readRun_72 : decode cX3_readRun 72 = .ok (.istore_n 3, 1) := by decide +kernel
theorem dX3_readRun_73 : decode cX3_readRun 73 = .ok (.iinc 4 (-1), 3) := by decide +kernel
theorem dX3_readRun_76 : decode cX3_readRun 76 = .ok (.goto (-49), 3) := by decide +kernel
theorem dX3_readRun_79 : decode cX3_readRun 79 = .ok (.iconst (-1), 1) := by decide +kernel
theorem dX3_readRun_80 : decode cX3_readRun 80 = .ok (.ireturn, 1) := by decide +kernel
abbrev po_c_X3_readRun (g : GG) (h0 : Nat) (w : Int) (r : Nat) (md : Nat) (dm : Nat) (t1 : Nat) (t2 : Nat) (t3 : Nat) (td : Nat) (b1 : Nat) (n1 : Nat) (b2 : Nat) (n2 : Nat) (f1 : Nat → Int32) (f2 : Nat → Int32) (d1 : Int32) (d2 : Int32) (src : Nat) (ba : Nat) (n : Nat) (f : Nat → Int32) (cb : Int) (pl : Int) (tu : Int) (bk : Int) : Option Value → va_W → Prop := fun v8 w8 => ∃ q : Int, ∃ p2_ : Int, v8 = some (.int (iI q)) ∧ w8 = [(h0, ob 3 [.int (iI w), .ref r, .ref md, .ref dm, .ref t1, .ref t2, .ref t3, .ref td, .ref src]), (t1, ob 1 [.ref b1, .int d1]), (b1, aI g n1 f1), (t2, ob 1 [.ref b2, .int d2]), (b2, aI g n2 f2), (src, ob 0 [.ref ba, .int (iI cb), .int (iI p2_), .int (iI tu)]), (ba, aB g n f)] ∧ ((q = -1 ∧ pl ≤ p2_ ∧ p2_ ≤ cb) ∨ (0 ≤ q ∧ q < 2000000000 ∧ pl < p2_ ∧ p2_ ≤ cb))
set_option maxHeartbeats 4000000 in
set_option maxRecDepth 100000 in
theorem c_X3_readRun (l : Launch) (g : GG) (h0 : Nat) (w : Int) (r : Nat) (md : Nat) (dm : Nat) (t1 : Nat) (t2 : Nat) (t3 : Nat) (td : Nat) (b1 : Nat) (n1 : Nat) (b2 : Nat) (n2 : Nat) (f1 : Nat → Int32) (f2 : Nat → Int32) (d1 : Int32) (d2 : Int32) (src : Nat) (ba : Nat) (n : Nat) (f : Nat → Int32) (cb : Int) (pl : Int) (tu : Int) (bk : Int) (hp0 : 0 ≤ cb ∧ cb ≤ 8 * (n : Int) ∧ 64 ≤ n ∧ n ≤ 130000 ∧ cb ≤ 508000) (hp1 : bF f) (hp2 : 0 ≤ pl ∧ pl ≤ cb) (hp3 : n1 < 100000 ∧ n2 < 100000) (hp4 : lo f1) (hp5 : lo f2) (hp6 : 0 ≤ bk ∧ bk ≤ 1) : Ct l g yX3_readRun (wM yX3_readRun cX3_readRun 6 (some .int)) (rmD 2 0 0) [.ref h0, .int (iI bk)] [(h0, ob 3 [.int (iI w), .ref r, .ref md, .ref dm, .ref t1, .ref t2, .ref t3, .ref td, .ref src]), (t1, ob 1 [.ref b1, .int d1]), (b1, aI g n1 f1), (t2, ob 1 [.ref b2, .int d2]), (b2, aI g n2 f2), (src, ob 0 [.ref ba, .int (iI cb), .int (iI pl), .int (iI tu)]), (ba, aB g n f)] (po_c_X3_readRun g h0 w r md dm t1 t2 t3 td b1 n1 b2 n2 f1 f2 d1 d2 src ba n f cb pl tu bk) := by
  refine Ct_of (by decide +kernel) (Nat.le_of_ble_eq_true rfl) ?_
  intro p9 e9 s9 m9 ag9 bl9 mt9 c9 A9 fx hr hnm
  refine v_iload_n fx 1 dX3_readRun_0 rfl rfl ?_
  refine v_if_eq fx 11 dX3_readRun_1 (by decide) rfl (by omega) (fun h_1 => ?_) (fun h_1 => ?_)
  ·
    refine v_aload_n fx 0 dX3_readRun_11 rfl rfl ?_
    refine v_get fx 0 4 inX3 k252 dX3_readRun_12 rfl rfl (by decide) rfl rfl rfl ?_
    refine v_astore_n fx [(2, .ref t1), (0, .ref h0), (1, .int (iI bk))] dX3_readRun_15 (by decide) rfl rfl ?_
    refine v_iconst fx dX3_readRun_16 rfl ?_
    refine v_istore_n fx [(3, .int (iI 0)), (2, .ref t1), (0, .ref h0), (1, .int (iI bk))] dX3_readRun_17 (by decide) rfl rfl ?_
    refine v_aload_n fx 2 dX3_readRun_18 rfl rfl ?_
    refine v_get fx 0 8 inX3 k256 dX3_readRun_19 rfl rfl (by decide) rfl rfl rfl ?_
    refine v_callV (As := []) (rest := []) fx [5] [0, 1, 2, 3, 4, 6] [(src, ob 0 [.ref ba, .int (iI cb), .int (iI pl), .int (iI tu)])] [(h0, ob 3 [.int (iI w), .ref r, .ref md, .ref dm, .ref t1, .ref t2, .ref t3, .ref td, .ref src]), (t1, ob 1 [.ref b1, .int d1]), (b1, aI g n1 f1), (t2, ob 1 [.ref b2, .int d2]), (b2, aI g n2 f2), (ba, aB g n f)] 0 0 (c_X0_left l g src ba cb pl tu ) dX3_readRun_22 k820 k821 k822 k50 k823 ykX0_left rfl rfl rfl rfl rfl rfl rfl rfl (nl rfl) ⟨nl rfl, nl rfl⟩ ⟨(nl rfl), (nl rfl)⟩ rfl (fun v9 w9 hu => ?_)
    obtain ⟨rfl, rfl⟩ := hu
    refine v_is (wn := [(h0, ob 3 [.int (iI w), .ref r, .ref md, .ref dm, .ref t1, .ref t2, .ref t3, .ref td, .ref src]), (t1, ob 1 [.ref b1, .int d1]), (b1, aI g n1 f1), (t2, ob 1 [.ref b2, .int d2]), (b2, aI g n2 f2), (ba, aB g n f), (src, ob 0 [.ref ba, .int (iI cb), .int (iI pl), .int (iI tu)])]) (cn := 0) (sn := 0) (sn2 := [.int (iI (cb - pl))]) rfl rfl rfl rfl ?_
    refine v_istore fx [(4, .int (iI (cb - pl))), (3, .int (iI 0)), (2, .ref t1), (0, .ref h0), (1, .int (iI bk))] dX3_readRun_25 (by decide) rfl rfl ?_
    have L27 : ∀ (N : Nat) (mo : Int) (y : Int) (p1 : Int), (0 ≤ mo ∧ mo ≤ cb - pl) → (0 ≤ y ∧ y ≤ 2700 * (cb - pl - mo)) → (pl ≤ p1 ∧ p1 ≤ cb) → mo.toNat < N → V p9 l e9 (rmD 2 0 0) s9 m9 ag9 bl9 mt9 c9 6 g A9 (MQ bl9 (cQ g (po_c_X3_readRun g h0 w r md dm t1 t2 t3 td b1 n1 b2 n2 f1 f2 d1 d2 src ba n f cb pl tu bk) A9) ag9 s9 0 0 A9) [(h0, ob 3 [.int (iI w), .ref r, .ref md, .ref dm, .ref t1, .ref t2, .ref t3, .ref td, .ref src]), (t1, ob 1 [.ref b1, .int d1]), (b1, aI g n1 f1), (t2, ob 1 [.ref b2, .int d2]), (b2, aI g n2 f2), (src, ob 0 [.ref ba, .int (iI cb), .int (iI p1), .int (iI tu)]), (ba, aB g n f)] 0 0 [(0, .ref h0), (1, .int (iI bk)), (2, .ref t1), (3, .int (iI y)), (4, .int (iI mo))] 27 [] := by
      intro N
      induction N with
      | zero => intro mo y p1 hi27_0 hi27_1 hi27_2 hN; exact absurd hN (Nat.not_lt_zero _)
      | succ N ihL27 =>
        intro mo y p1 hi27_0 hi27_1 hi27_2 hN27
        refine v_iload fx 4 dX3_readRun_27 rfl rfl ?_
        refine v_if_le fx 79 dX3_readRun_29 (by decide) rfl (by omega) (fun h_2 => ?_) (fun h_2 => ?_)
        ·
          refine v_iconst fx dX3_readRun_79 rfl ?_
          exact v_iret fx [(h0, ob 3 [.int (iI w), .ref r, .ref md, .ref dm, .ref t1, .ref t2, .ref t3, .ref td, .ref src]), (t1, ob 1 [.ref b1, .int d1]), (b1, aI g n1 f1), (t2, ob 1 [.ref b2, .int d2]), (b2, aI g n2 f2), (src, ob 0 [.ref ba, .int (iI cb), .int (iI p1), .int (iI tu)]), (ba, aB g n f)] [0, 1, 2, 3, 4, 5, 6] hr dX3_readRun_80 rfl rfl (nl rfl) (nl rfl) ⟨(-1), p1, rfl, rfl, (by first | omega | rfl | assumption)⟩
        ·
          refine v_aload_n fx 2 dX3_readRun_32 rfl rfl ?_
          refine v_aload_n fx 0 dX3_readRun_33 rfl rfl ?_
          refine v_get fx 0 8 inX3 k256 dX3_readRun_34 rfl rfl (by decide) rfl rfl rfl ?_
          refine v_callV (As := [.ref src]) (rest := []) fx [1, 2, 5, 6] [0, 3, 4] [(t1, ob 1 [.ref b1, .int d1]), (b1, aI g n1 f1), (src, ob 0 [.ref ba, .int (iI cb), .int (iI p1), .int (iI tu)]), (ba, aB g n f)] [(h0, ob 3 [.int (iI w), .ref r, .ref md, .ref dm, .ref t1, .ref t2, .ref t3, .ref td, .ref src]), (t2, ob 1 [.ref b2, .int d2]), (b2, aI g n2 f2)] 1 0 (c_X1_read l g t1 b1 n1 f1 d1 src ba n f cb p1 tu (by first | omega | decide | assumption) (by exact hp1) (by first | omega | decide | assumption) (by omega) (by assumption)) dX3_readRun_37 k825 k826 k827 k54 k828 ykX1_read rfl rfl rfl rfl rfl rfl rfl rfl (nl rfl) ⟨nl rfl, nl rfl⟩ ⟨(nl rfl), (nl rfl)⟩ rfl (fun v9 w9 hu => ?_)
          obtain ⟨nu, pq, rfl, rfl, u_3⟩ := hu
          refine v_is (wn := [(h0, ob 3 [.int (iI w), .ref r, .ref md, .ref dm, .ref t1, .ref t2, .ref t3, .ref td, .ref src]), (t2, ob 1 [.ref b2, .int d2]), (b2, aI g n2 f2), (t1, ob 1 [.ref b1, .int d1]), (b1, aI g n1 f1), (src, ob 0 [.ref ba, .int (iI cb), .int (iI pq), .int (iI tu)]), (ba, aB g n f)]) (cn := 0) (sn := 0) (sn2 := [.int (iI nu)]) rfl rfl rfl rfl ?_
          refine v_istore fx [(5, .int (iI nu)), (0, .ref h0), (1, .int (iI bk)), (2, .ref t1), (3, .int (iI y)), (4, .int (iI mo))] dX3_readRun_40 (by decide) rfl rfl ?_
          refine v_iload fx 0 dX3_readRun_42 rfl rfl ?_
          refine v_iconst fx dX3_readRun_44 rfl ?_
          refine v_icmp_ne fx 50 dX3_readRun_45 (by decide) rfl (by omega) (by omega) (fun h_4 => ?_) (fun h_4 => ?_)
          ·
            refine v_iload fx 0 dX3_readRun_50 rfl rfl ?_
            refine v_bipush fx dX3_readRun_52 (by decide +kernel) rfl ?_
            refine v_icmp_ge fx 62 dX3_readRun_54 (by decide) rfl (by omega) (by omega) (fun h_5 => ?_) (fun h_5 => ?_)
            ·
              refine v_iload_n fx 4 dX3_readRun_62 rfl rfl ?_
              refine v_iload fx 0 dX3_readRun_63 rfl rfl ?_
              refine v_bipush fx dX3_readRun_65 (by decide +kernel) rfl ?_
              refine v_isub fx (nu - 63) dX3_readRun_67 (by rfl) rfl ?_
              refine v_bipush fx dX3_readRun_68 (by decide +kernel) rfl ?_
              refine v_imul fx ((nu - 63) * 64) dX3_readRun_70 (by rfl) rfl ?_
              refine v_iadd fx (y + ((nu - 63) * 64)) dX3_readRun_71 (by rfl) rfl ?_
              refine v_istore_n fx [(3, .int (iI (y + ((nu - 63) * 64)))), (5, .int (iI nu)), (0, .ref h0), (1, .int (iI bk)), (2, .ref t1), (4, .int (iI mo))] dX3_readRun_72 (by decide) rfl rfl ?_
              refine v_iinc fx 5 (mo - 1) [(4, .int (iI (mo - 1))), (3, .int (iI (y + ((nu - 63) * 64)))), (5, .int (iI nu)), (0, .ref h0), (1, .int (iI bk)), (2, .ref t1)] dX3_readRun_73 rfl (by omega) (by decide) rfl rfl ?_
              refine v_goto fx 27 dX3_readRun_76 (by decide) ?_
              refine v_ws [0, 3, 4, 1, 2, 5, 6] [(h0, ob 3 [.int (iI w), .ref r, .ref md, .ref dm, .ref t1, .ref t2, .ref t3, .ref td, .ref src]), (t1, ob 1 [.ref b1, .int d1]), (b1, aI g n1 f1), (t2, ob 1 [.ref b2, .int d2]), (b2, aI g n2 f2), (src, ob 0 [.ref ba, .int (iI cb), .int (iI pq), .int (iI tu)]), (ba, aB g n f)] rfl rfl ?_
              refine v_lv [3, 4, 5, 1, 0] [(0, .ref h0), (1, .int (iI bk)), (2, .ref t1), (3, .int (iI (y + ((nu - 63) * 64)))), (4, .int (iI (mo - 1)))] rfl ?_
              exact ihL27 (mo - 1) (y + ((nu - 63) * 64)) pq (by omega) (by omega) (by omega) (by omega)
            ·
              refine v_iload_n fx 4 dX3_readRun_57 rfl rfl ?_
              refine v_iload fx 0 dX3_readRun_58 rfl rfl ?_
              refine v_iadd fx (y + nu) dX3_readRun_60 (by rfl) rfl ?_
              exact v_iret fx [(h0, ob 3 [.int (iI w), .ref r, .ref md, .ref dm, .ref t1, .ref t2, .ref t3, .ref td, .ref src]), (t1, ob 1 [.ref b1, .int d1]), (b1, aI g n1 f1), (t2, ob 1 [.ref b2, .int d2]), (b2, aI g n2 f2), (src, ob 0 [.ref ba, .int (iI cb), .int (iI pq), .int (iI tu)]), (ba, aB g n f)] [0, 3, 4, 1, 2, 5, 6] hr dX3_readRun_61 rfl rfl (nl rfl) (nl rfl) ⟨(y + nu), pq, rfl, rfl, (by first | omega | rfl | assumption)⟩
          ·
            refine v_iconst fx dX3_readRun_48 rfl ?_
            exact v_iret fx [(h0, ob 3 [.int (iI w), .ref r, .ref md, .ref dm, .ref t1, .ref t2, .ref t3, .ref td, .ref src]), (t1, ob 1 [.ref b1, .int d1]), (b1, aI g n1 f1), (t2, ob 1 [.ref b2, .int d2]), (b2, aI g n2 f2), (src, ob 0 [.ref ba, .int (iI cb), .int (iI pq), .int (iI tu)]), (ba, aB g n f)] [0, 3, 4, 1, 2, 5, 6] hr dX3_readRun_49 rfl rfl (nl rfl) (nl rfl) ⟨(-1), pq, rfl, rfl, (by first | omega | rfl | assumption)⟩
    refine v_ws [0, 1, 2, 3, 4, 6, 5] [(h0, ob 3 [.int (iI w), .ref r, .ref md, .ref dm, .ref t1, .ref t2, .ref t3, .ref td, .ref src]), (t1, ob 1 [.ref b1, .int d1]), (b1, aI g n1 f1), (t2, ob 1 [.ref b2, .int d2]), (b2, aI g n2 f2), (src, ob 0 [.ref ba, .int (iI cb), .int (iI pl), .int (iI tu)]), (ba, aB g n f)] rfl rfl ?_
    refine v_lv [3, 4, 2, 1, 0] [(0, .ref h0), (1, .int (iI bk)), (2, .ref t1), (3, .int (iI 0)), (4, .int (iI (cb - pl)))] rfl ?_
    exact L27 _ (cb - pl) 0 pl (by omega) (by omega) (by omega) (Nat.lt_succ_self _)
  ·
    refine v_aload_n fx 0 dX3_readRun_4 rfl rfl ?_
    refine v_get fx 0 5 inX3 k253 dX3_readRun_5 rfl rfl (by decide) rfl rfl rfl ?_
    refine v_goto fx 15 dX3_readRun_8 (by decide) ?_
    refine v_astore_n fx [(2, .ref t2), (0, .ref h0), (1, .int (iI bk))] dX3_readRun_15 (by decide) rfl rfl ?_
    refine v_iconst fx dX3_readRun_16 rfl ?_
    refine v_istore_n fx [(3, .int (iI 0)), (2, .ref t2), (0, .ref h0), (1, .int (iI bk))] dX3_readRun_17 (by decide) rfl rfl ?_
    refine v_aload_n fx 2 dX3_readRun_18 rfl rfl ?_
    refine v_get fx 0 8 inX3 k256 dX3_readRun_19 rfl rfl (by decide) rfl rfl rfl ?_
    refine v_callV (As := []) (rest := []) fx [5] [0, 1, 2, 3, 4, 6] [(src, ob 0 [.ref ba, .int (iI cb), .int (iI pl), .int (iI tu)])] [(h0, ob 3 [.int (iI w), .ref r, .ref md, .ref dm, .ref t1, .ref t2, .ref t3, .ref td, .ref src]), (t1, ob 1 [.ref b1, .int d1]), (b1, aI g n1 f1), (t2, ob 1 [.ref b2, .int d2]), (b2, aI g n2 f2), (ba, aB g n f)] 0 0 (c_X0_left l g src ba cb pl tu ) dX3_readRun_22 k820 k821 k822 k50 k823 ykX0_left rfl rfl rfl rfl rfl rfl rfl rfl (nl rfl) ⟨nl rfl, nl rfl⟩ ⟨(nl rfl), (nl rfl)⟩ rfl (fun v9 w9 hu => ?_)
    obtain ⟨rfl, rfl⟩ := hu
    refine v_is (wn := [(h0, ob 3 [.int (iI w), .ref r, .ref md, .ref dm, .ref t1, .ref t2, .ref t3, .ref td, .ref src]), (t1, ob 1 [.ref b1, .int d1]), (b1, aI g n1 f1), (t2, ob 1 [.ref b2, .int d2]), (b2, aI g n2 f2), (ba, aB g n f), (src, ob 0 [.ref ba, .int (iI cb), .int (iI pl), .int (iI tu)])]) (cn := 0) (sn := 0) (sn2 := [.int (iI (cb - pl))]) rfl rfl rfl rfl ?_
    refine v_istore fx [(4, .int (iI (cb - pl))), (3, .int (iI 0)), (2, .ref t2), (0, .ref h0), (1, .int (iI bk))] dX3_readRun_25 (by decide) rfl rfl ?_
    have L27 : ∀ (N : Nat) (mo : Int) (y : Int) (p1 : Int), (0 ≤ mo ∧ mo ≤ cb - pl) → (0 ≤ y ∧ y ≤ 2700 * (cb - pl - mo)) → (pl ≤ p1 ∧ p1 ≤ cb) → mo.toNat < N → V p9 l e9 (rmD 2 0 0) s9 m9 ag9 bl9 mt9 c9 6 g A9 (MQ bl9 (cQ g (po_c_X3_readRun g h0 w r md dm t1 t2 t3 td b1 n1 b2 n2 f1 f2 d1 d2 src ba n f cb pl tu bk) A9) ag9 s9 0 0 A9) [(h0, ob 3 [.int (iI w), .ref r, .ref md, .ref dm, .ref t1, .ref t2, .ref t3, .ref td, .ref src]), (t1, ob 1 [.ref b1, .int d1]), (b1, aI g n1 f1), (t2, ob 1 [.ref b2, .int d2]), (b2, aI g n2 f2), (src, ob 0 [.ref ba, .int (iI cb), .int (iI p1), .int (iI tu)]), (ba, aB g n f)] 0 0 [(0, .ref h0), (1, .int (iI bk)), (2, .ref t2), (3, .int (iI y)), (4, .int (iI mo))] 27 [] := by
      intro N
      induction N with
      | zero => intro mo y p1 hi27_0 hi27_1 hi27_2 hN; exact absurd hN (Nat.not_lt_zero _)
      | succ N ihL27 =>
        intro mo y p1 hi27_0 hi27_1 hi27_2 hN27
        refine v_iload fx 4 dX3_readRun_27 rfl rfl ?_
        refine v_if_le fx 79 dX3_readRun_29 (by decide) rfl (by omega) (fun h_6 => ?_) (fun h_6 => ?_)
        ·
          refine v_iconst fx dX3_readRun_79 rfl ?_
          exact v_iret fx [(h0, ob 3 [.int (iI w), .ref r, .ref md, .ref dm, .ref t1, .ref t2, .ref t3, .ref td, .ref src]), (t1, ob 1 [.ref b1, .int d1]), (b1, aI g n1 f1), (t2, ob 1 [.ref b2, .int d2]), (b2, aI g n2 f2), (src, ob 0 [.ref ba, .int (iI cb), .int (iI p1), .int (iI tu)]), (ba, aB g n f)] [0, 1, 2, 3, 4, 5, 6] hr dX3_readRun_80 rfl rfl (nl rfl) (nl rfl) ⟨(-1), p1, rfl, rfl, (by first | omega | rfl | assumption)⟩
        ·
          refine v_aload_n fx 2 dX3_readRun_32 rfl rfl ?_
          refine v_aload_n fx 0 dX3_readRun_33 rfl rfl ?_
          refine v_get fx 0 8 inX3 k256 dX3_readRun_34 rfl rfl (by decide) rfl rfl rfl ?_
          refine v_callV (As := [.ref src]) (rest := []) fx [3, 4, 5, 6] [0, 1, 2] [(t2, ob 1 [.ref b2, .int d2]), (b2, aI g n2 f2), (src, ob 0 [.ref ba, .int (iI cb), .int (iI p1), .int (iI tu)]), (ba, aB g n f)] [(h0, ob 3 [.int (iI w), .ref r, .ref md, .ref dm, .ref t1, .ref t2, .ref t3, .ref td, .ref src]), (t1, ob 1 [.ref b1, .int d1]), (b1, aI g n1 f1)] 1 0 (c_X1_read l g t2 b2 n2 f2 d2 src ba n f cb p1 tu (by first | omega | decide | assumption) (by exact hp1) (by first | omega | decide | assumption) (by omega) (by assumption)) dX3_readRun_37 k825 k826 k827 k54 k828 ykX1_read rfl rfl rfl rfl rfl rfl rfl rfl (nl rfl) ⟨nl rfl, nl rfl⟩ ⟨(nl rfl), (nl rfl)⟩ rfl (fun v9 w9 hu => ?_)
          obtain ⟨nu, pq, rfl, rfl, u_7⟩ := hu
          refine v_is (wn := [(h0, ob 3 [.int (iI w), .ref r, .ref md, .ref dm, .ref t1, .ref t2, .ref t3, .ref td, .ref src]), (t1, ob 1 [.ref b1, .int d1]), (b1, aI g n1 f1), (t2, ob 1 [.ref b2, .int d2]), (b2, aI g n2 f2), (src, ob 0 [.ref ba, .int (iI cb), .int (iI pq), .int (iI tu)]), (ba, aB g n f)]) (cn := 0) (sn := 0) (sn2 := [.int (iI nu)]) rfl rfl rfl rfl ?_
          refine v_istore fx [(5, .int (iI nu)), (0, .ref h0), (1, .int (iI bk)), (2, .ref t2), (3, .int (iI y)), (4, .int (iI mo))] dX3_readRun_40 (by decide) rfl rfl ?_
          refine v_iload fx 0 dX3_readRun_42 rfl rfl ?_
          refine v_iconst fx dX3_readRun_44 rfl ?_
          refine v_icmp_ne fx 50 dX3_readRun_45 (by decide) rfl (by omega) (by omega) (fun h_8 => ?_) (fun h_8 => ?_)
          ·
            refine v_iload fx 0 dX3_readRun_50 rfl rfl ?_
            refine v_bipush fx dX3_readRun_52 (by decide +kernel) rfl ?_
            refine v_icmp_ge fx 62 dX3_readRun_54 (by decide) rfl (by omega) (by omega) (fun h_9 => ?_) (fun h_9 => ?_)
            ·
              refine v_iload_n fx 4 dX3_readRun_62 rfl rfl ?_
              refine v_iload fx 0 dX3_readRun_63 rfl rfl ?_
              refine v_bipush fx dX3_readRun_65 (by decide +kernel) rfl ?_
              refine v_isub fx (nu - 63) dX3_readRun_67 (by rfl) rfl ?_
              refine v_bipush fx dX3_readRun_68 (by decide +kernel) rfl ?_
              refine v_imul fx ((nu - 63) * 64) dX3_readRun_70 (by rfl) rfl ?_
              refine v_iadd fx (y + ((nu - 63) * 64)) dX3_readRun_71 (by rfl) rfl ?_
              refine v_istore_n fx [(3, .int (iI (y + ((nu - 63) * 64)))), (5, .int (iI nu)), (0, .ref h0), (1, .int (iI bk)), (2, .ref t2), (4, .int (iI mo))] dX3_readRun_72 (by decide) rfl rfl ?_
              refine v_iinc fx 5 (mo - 1) [(4, .int (iI (mo - 1))), (3, .int (iI (y + ((nu - 63) * 64)))), (5, .int (iI nu)), (0, .ref h0), (1, .int (iI bk)), (2, .ref t2)] dX3_readRun_73 rfl (by omega) (by decide) rfl rfl ?_
              refine v_goto fx 27 dX3_readRun_76 (by decide) ?_
              refine v_lv [3, 4, 5, 1, 0] [(0, .ref h0), (1, .int (iI bk)), (2, .ref t2), (3, .int (iI (y + ((nu - 63) * 64)))), (4, .int (iI (mo - 1)))] rfl ?_
              exact ihL27 (mo - 1) (y + ((nu - 63) * 64)) pq (by omega) (by omega) (by omega) (by omega)
            ·
              refine v_iload_n fx 4 dX3_readRun_57 rfl rfl ?_
              refine v_iload fx 0 dX3_readRun_58 rfl rfl ?_
              refine v_iadd fx (y + nu) dX3_readRun_60 (by rfl) rfl ?_
              exact v_iret fx [(h0, ob 3 [.int (iI w), .ref r, .ref md, .ref dm, .ref t1, .ref t2, .ref t3, .ref td, .ref src]), (t1, ob 1 [.ref b1, .int d1]), (b1, aI g n1 f1), (t2, ob 1 [.ref b2, .int d2]), (b2, aI g n2 f2), (src, ob 0 [.ref ba, .int (iI cb), .int (iI pq), .int (iI tu)]), (ba, aB g n f)] [0, 1, 2, 3, 4, 5, 6] hr dX3_readRun_61 rfl rfl (nl rfl) (nl rfl) ⟨(y + nu), pq, rfl, rfl, (by first | omega | rfl | assumption)⟩
          ·
            refine v_iconst fx dX3_readRun_48 rfl ?_
            exact v_iret fx [(h0, ob 3 [.int (iI w), .ref r, .ref md, .ref dm, .ref t1, .ref t2, .ref t3, .ref td, .ref src]), (t1, ob 1 [.ref b1, .int d1]), (b1, aI g n1 f1), (t2, ob 1 [.ref b2, .int d2]), (b2, aI g n2 f2), (src, ob 0 [.ref ba, .int (iI cb), .int (iI pq), .int (iI tu)]), (ba, aB g n f)] [0, 1, 2, 3, 4, 5, 6] hr dX3_readRun_49 rfl rfl (nl rfl) (nl rfl) ⟨(-1), pq, rfl, rfl, (by first | omega | rfl | assumption)⟩
    refine v_ws [0, 1, 2, 3, 4, 6, 5] [(h0, ob 3 [.int (iI w), .ref r, .ref md, .ref dm, .ref t1, .ref t2, .ref t3, .ref td, .ref src]), (t1, ob 1 [.ref b1, .int d1]), (b1, aI g n1 f1), (t2, ob 1 [.ref b2, .int d2]), (b2, aI g n2 f2), (src, ob 0 [.ref ba, .int (iI cb), .int (iI pl), .int (iI tu)]), (ba, aB g n f)] rfl rfl ?_
    refine v_lv [3, 4, 2, 1, 0] [(0, .ref h0), (1, .int (iI bk)), (2, .ref t2), (3, .int (iI 0)), (4, .int (iI (cb - pl)))] rfl ?_
    exact L27 _ (cb - pl) 0 pl (by omega) (by omega) (by omega) (Nat.lt_succ_self _)
theorem dX3_turnAt_0 : decode cX3_turnAt 0 = .ok (.aload_n 0, 1) := by decide +kernel
theorem dX3_turnAt_1 : decode cX3_turnAt 1 = .ok (.getfield 12, 3) := by decide +kernel
theorem dX3_turnAt_4 : decode cX3_turnAt 4 = .ok (.invokevirtual 180, 3) := by decide +kernel
theorem dX3_turnAt_7 : decode cX3_turnAt 7 = .ok (.iload_n 1, 1) := by decide +kernel
theorem dX3_turnAt_8 : decode cX3_turnAt 8 = .ok (.if_icmp .ne 13, 3) := by decide +kernel
theorem dX3_turnAt_11 : decode cX3_turnAt 11 = .ok (.aload_n 0, 1) := by decide +kernel
theorem dX3_turnAt_12 : decode cX3_turnAt 12 = .ok (.getfield 12, 3) := by decide +kernel
theorem dX3_turnAt_15 : decode cX3_turnAt 15 = .ok (.invokevirtual 183, 3) := by decide +kernel
theorem dX3_turnAt_18 : decode cX3_turnAt 18 = .ok (.goto 19, 3) := by decide +kernel
theorem dX3_turnAt_21 : decode cX3_turnAt 21 = .ok (.iload_n 1, 1) := by decide +kernel
theorem dX3_turnAt_22 : decode cX3_turnAt 22 = .ok (.aload_n 0, 1) := by decide +kernel
theorem dX3_turnAt_23 : decode cX3_turnAt 23 = .ok (.getfield 38, 3) := by decide +kernel
theorem dX3_turnAt_26 : decode cX3_turnAt 26 = .ok (.if_icmp .ge 11, 3) := by decide +kernel
theorem dX3_turnAt_29 : decode cX3_turnAt 29 = .ok (.aload_n 0, 1) := by decide +kernel
theorem dX3_turnAt_30 : decode cX3_turnAt 30 = .ok (.getfield 12, 3) := by decide +kernel
theorem dX3_turnAt_33 : decode cX3_turnAt 33 = .ok (.iload_n 1, 1) := by decide +kernel
theorem dX3_turnAt_34 : decode cX3_turnAt 34 = .ok (.invokevirtual 164, 3) := by decide +kernel
theorem dX3_turnAt_37 : decode cX3_turnAt 37 = .ok (.return_, 1) := by decide +kernel
abbrev po_c_X3_turnAt (g : GG) (h0 : Nat) (w : Int) (r : Nat) (md : Nat) (dm : Nat) (t1 : Nat) (t2 : Nat) (t3 : Nat) (td : Nat) (src : Nat) (rs : Nat) (it : Nat) (m : Nat) (c : Int) (F : Nat → Int) (fs : Nat → Int32) (fi : Nat → Int32) (e : Int) (x : Int) : Option Value → va_W → Nat → Nat → Prop := fun v8 w8 kc8 ks8 => ∃ i2 : Nat, ∃ m2 : Nat, ∃ s2 : Nat → Int32, ∃ g2 : Nat → Int32, ∃ e2 : Int, v8 = none ∧ w8 = [(h0, ob 3 [.int (iI w), .ref r, .ref md, .ref dm, .ref t1, .ref t2, .ref t3, .ref td, .ref src]), (r, ob 2 [.ref rs, .ref i2, .int (iI c)]), (rs, aI g 27 s2), (i2, aI g m2 g2)] ∧ (LB c (fU F (c.toNat + 1) e2) s2 m2) ∧ (RI w c F g2) ∧ (F c.toNat ≤ e2) ∧ (inc g2 (F c.toNat) e2 w) ∧ (ks8 + 2 * m ≤ 2 * m2 ∧ 64 * kc8 ≤ ks8 ∧ m ≤ m2 ∧ m2 ≤ 160000) ∧ (∀ j : Nat, (j : Int) < F c.toNat → g2 j = fi j) ∧ (inc g2 (F c.toNat) e2 (x + 1))
set_option maxHeartbeats 4000000 in
set_option maxRecDepth 100000 in
theorem c_X3_turnAt (l : Launch) (g : GG) (h0 : Nat) (w : Int) (r : Nat) (md : Nat) (dm : Nat) (t1 : Nat) (t2 : Nat) (t3 : Nat) (td : Nat) (src : Nat) (rs : Nat) (it : Nat) (m : Nat) (c : Int) (F : Nat → Int) (fs : Nat → Int32) (fi : Nat → Int32) (e : Int) (x : Int) (hp0 : LB c (fU F (c.toNat + 1) e) fs m) (hp1 : RI w c F fi) (hp2 : F c.toNat ≤ e) (hp3 : inc fi (F c.toNat) e w) (hp4 : c ≤ 24 ∧ m ≤ 160000) (hp5 : 1 ≤ w ∧ w ≤ 3000) (hp6 : inc fi (F c.toNat) e (x + 1)) (hp7 : 0 ≤ x ∧ x ≤ w) : CtE l g yX3_turnAt (wM yX3_turnAt cX3_turnAt 2 none) (rmD 3 1 330000) [.ref h0, .int (iI x)] [(h0, ob 3 [.int (iI w), .ref r, .ref md, .ref dm, .ref t1, .ref t2, .ref t3, .ref td, .ref src]), (r, ob 2 [.ref rs, .ref it, .int (iI c)]), (rs, aI g 27 fs), (it, aI g m fi)] (po_c_X3_turnAt g h0 w r md dm t1 t2 t3 td src rs it m c F fs fi e x) := by
  refine CtE_of (by decide +kernel) (Nat.le_of_ble_eq_true rfl) ?_
  intro p9 e9 s9 m9 ag9 bl9 mt9 c9 A9 fx hr hnm
  have hF := LB_F hp0
  have hFc := RI_lenF hp0 hp1 (by omega)
  have hop := inc_len hp3 (by omega)
  refine v_aload_n fx 0 dX3_turnAt_0 rfl rfl ?_
  refine v_get fx 0 1 inX3 k249 dX3_turnAt_1 rfl rfl (by decide) rfl rfl rfl ?_
  refine v_callV (As := []) (rest := []) fx [1, 2, 3] [0] [(r, ob 2 [.ref rs, .ref it, .int (iI c)]), (rs, aI g 27 fs), (it, aI g m fi)] [(h0, ob 3 [.int (iI w), .ref r, .ref md, .ref dm, .ref t1, .ref t2, .ref t3, .ref td, .ref src])] 0 0 (c_X2_last l g r rs it m c (fU F (c.toNat + 1) e) fs fi (by exact hp0)) dX3_turnAt_4 k852 k853 k854 k49 k855 ykX2_last rfl rfl rfl rfl rfl rfl rfl rfl (nl rfl) ⟨nl rfl, nl rfl⟩ ⟨(nl rfl), (nl rfl)⟩ rfl (fun v9 w9 hu => ?_)
  obtain ⟨la, rfl, rfl, u_1, u_2⟩ := hu
  refine v_is (wn := [(h0, ob 3 [.int (iI w), .ref r, .ref md, .ref dm, .ref t1, .ref t2, .ref t3, .ref td, .ref src]), (r, ob 2 [.ref rs, .ref it, .int (iI c)]), (rs, aI g 27 fs), (it, aI g m fi)]) (cn := 0) (sn := 0) (sn2 := [.int (iI la)]) rfl rfl rfl rfl ?_
  have hla := u_1
  rw [fU_b, fU_s] at hla
  refine v_iload_n fx 1 dX3_turnAt_7 rfl rfl ?_
  refine v_icmp_ne fx 21 dX3_turnAt_8 (by decide) rfl (by omega) (by omega) (fun h_3 => ?_) (fun h_3 => ?_)
  ·
    refine v_iload_n fx 1 dX3_turnAt_21 rfl rfl ?_
    refine v_aload_n fx 0 dX3_turnAt_22 rfl rfl ?_
    refine v_get fx 0 0 inX3 k248 dX3_turnAt_23 rfl rfl (by decide) rfl rfl rfl ?_
    refine v_icmp_ge fx 37 dX3_turnAt_26 (by decide) rfl (by omega) (by omega) (fun h_4 => ?_) (fun h_4 => ?_)
    ·
      exact v_vretE fx [(h0, ob 3 [.int (iI w), .ref r, .ref md, .ref dm, .ref t1, .ref t2, .ref t3, .ref td, .ref src]), (r, ob 2 [.ref rs, .ref it, .int (iI c)]), (rs, aI g 27 fs), (it, aI g m fi)] [0, 1, 2, 3] hr dX3_turnAt_37 rfl rfl ⟨it, m, fs, fi, e, rfl, rfl, (by first | exact hdr | exact hLa | exact hp0), (by first | exact hRa | exact hp1), (by first | omega | rfl | assumption), (by first | exact hiw | exact inc_sub hp3 (by omega)), (by first | omega | rfl | assumption), (by first | exact hka | exact fun _ _ => rfl), (by first | exact hia | exact inc_sub hp6 (by omega))⟩
    ·
      refine v_aload_n fx 0 dX3_turnAt_29 rfl rfl ?_
      refine v_get fx 0 1 inX3 k249 dX3_turnAt_30 rfl rfl (by decide) rfl rfl rfl ?_
      refine v_iload_n fx 1 dX3_turnAt_33 rfl rfl ?_
      refine v_callVE (As := [.int (iI x)]) (rest := []) fx [1, 2, 3] [0] [(r, ob 2 [.ref rs, .ref it, .int (iI c)]), (rs, aI g 27 fs), (it, aI g m fi)] [(h0, ob 3 [.int (iI w), .ref r, .ref md, .ref dm, .ref t1, .ref t2, .ref t3, .ref td, .ref src])] 1 0 (c_X2_append l g r rs it m c (fU F (c.toNat + 1) e) fs fi (iI x) (by exact hp0) (by rw [fU_s]; omega) (by omega)) dX3_turnAt_34 k862 k335 k336 k49 k337 ykX2_append rfl rfl rfl rfl rfl rfl rfl rfl (nl rfl) ⟨nl rfl, nl rfl⟩ ⟨(nl rfl), (by show 0 + (2 * m) ≤ 330000; omega)⟩ rfl (fun v9 w9 kc_5 ks_6 hu => ?_)
      obtain ⟨ia, ma, sa, fa, rfl, rfl, u_7, u_8, u_9, u_10⟩ := hu
      refine v_is (wn := [(h0, ob 3 [.int (iI w), .ref r, .ref md, .ref dm, .ref t1, .ref t2, .ref t3, .ref td, .ref src]), (r, ob 2 [.ref rs, .ref ia, .int (iI c)]), (rs, aI g 27 sa), (ia, aI g ma fa)]) (cn := kc_5) (sn := ks_6) (sn2 := []) rfl (Nat.zero_add _) (Nat.zero_add _) rfl ?_
      simp only [fU_s, fU_fU] at u_7 u_9 u_10
      have hLa := u_7
      have hRa := RI_keepF hp0 hp1 u_9
      have hka : ∀ j : Nat, (j : Int) < F c.toNat → fa j = fi j := fun j hj => u_9 j (by omega)
      have hia := inc_app (p2 := x + 1) (inc_tight hp6 (fun h => by have h7 := (hp6 (e - 1) (by omega) (by omega)).1.2; omega)) (by omega) u_9 u_10 (by omega)
      have hiw := inc_mono hia (p2 := w) (by omega)
      exact v_vretE fx [(h0, ob 3 [.int (iI w), .ref r, .ref md, .ref dm, .ref t1, .ref t2, .ref t3, .ref td, .ref src]), (r, ob 2 [.ref rs, .ref ia, .int (iI c)]), (rs, aI g 27 sa), (ia, aI g ma fa)] [0, 1, 2, 3] hr dX3_turnAt_37 rfl rfl ⟨ia, ma, sa, fa, (e + 1), rfl, rfl, (by first | exact hdr | exact hLa | exact hp0), (by first | exact hRa | exact hp1), (by first | omega | rfl | assumption), (by first | exact hiw | exact inc_sub hp3 (by omega)), (by first | omega | rfl | assumption), (by first | exact hka | exact fun _ _ => rfl), (by first | exact hia | exact inc_sub hp6 (by omega))⟩
  ·
    refine v_aload_n fx 0 dX3_turnAt_11 rfl rfl ?_
    refine v_get fx 0 1 inX3 k249 dX3_turnAt_12 rfl rfl (by decide) rfl rfl rfl ?_
    refine v_callV (As := []) (rest := []) fx [1, 2] [0, 3] [(r, ob 2 [.ref rs, .ref it, .int (iI c)]), (rs, aI g 27 fs)] [(h0, ob 3 [.int (iI w), .ref r, .ref md, .ref dm, .ref t1, .ref t2, .ref t3, .ref td, .ref src]), (it, aI g m fi)] 0 0 (c_X2_dropLast l g r rs it m c (fU F (c.toNat + 1) e) fs fi (by exact hp0)) dX3_turnAt_15 k857 k858 k859 k49 k860 ykX2_dropLast rfl rfl rfl rfl rfl rfl rfl rfl (nl rfl) ⟨nl rfl, nl rfl⟩ ⟨(nl rfl), (nl rfl)⟩ rfl (fun v9 w9 hu => ?_)
    obtain ⟨sd, rfl, rfl, u_11⟩ := hu
    refine v_is (wn := [(h0, ob 3 [.int (iI w), .ref r, .ref md, .ref dm, .ref t1, .ref t2, .ref t3, .ref td, .ref src]), (it, aI g m fi), (r, ob 2 [.ref rs, .ref it, .int (iI c)]), (rs, aI g 27 sd)]) (cn := 0) (sn := 0) (sn2 := []) rfl rfl rfl rfl ?_
    have hdr : LB c (fU F (c.toNat + 1) (e - 1)) sd m := by
      rcases u_11 with ⟨h1, h2⟩ | ⟨h1, h2⟩
      · rw [fU_fU, fU_s] at h2; exact h2
      · rw [fU_b, fU_s] at h1; omega
    refine v_goto fx 37 dX3_turnAt_18 (by decide) ?_
    exact v_vretE fx [(h0, ob 3 [.int (iI w), .ref r, .ref md, .ref dm, .ref t1, .ref t2, .ref t3, .ref td, .ref src]), (r, ob 2 [.ref rs, .ref it, .int (iI c)]), (rs, aI g 27 sd), (it, aI g m fi)] [0, 2, 3, 1] hr dX3_turnAt_37 rfl rfl ⟨it, m, sd, fi, (e - 1), rfl, rfl, (by first | exact hdr | exact hLa | exact hp0), (by first | exact hRa | exact hp1), (by first | omega | rfl | assumption), (by first | exact hiw | exact inc_sub hp3 (by omega)), (by first | omega | rfl | assumption), (by first | exact hka | exact fun _ _ => rfl), (by first | exact hia | exact inc_sub hp6 (by omega))⟩
theorem dX3_readRuns_0 : decode cX3_readRuns 0 = .ok (.iconst 0, 1) := by decide +kernel
theorem dX3_readRuns_1 : decode cX3_readRuns 1 = .ok (.istore_n 1, 1) := by decide +kernel
theorem dX3_readRuns_2 : decode cX3_readRuns 2 = .ok (.iconst 0, 1) := by decide +kernel
theorem dX3_readRuns_3 : decode cX3_readRuns 3 = .ok (.istore_n 2, 1) := by decide +kernel
theorem dX3_readRuns_4 : decode cX3_readRuns 4 = .ok (.aload_n 0, 1) := by decide +kernel
theorem dX3_readRuns_5 : decode cX3_readRuns 5 = .ok (.getfield 59, 3) := by decide +kernel
theorem dX3_readRuns_8 : decode cX3_readRuns 8 = .ok (.invokevirtual 99, 3) := by decide +kernel
theorem dX3_readRuns_11 : decode cX3_readRuns 11 = .ok (.istore_n 3, 1) := by decide +kernel
theorem dX3_readRuns_12 : decode cX3_readRuns 12 = .ok (.iload_n 3, 1) := by decide +kernel
theorem dX3_readRuns_13 : decode cX3_readRuns 13 = .ok (.ifCond .le 63, 3) := by decide +kernel
theorem dX3_readRuns_16 : decode cX3_readRuns 16 = .ok (.iload_n 1, 1) := by decide +kernel
theorem dX3_readRuns_17 : decode cX3_readRuns 17 = .ok (.aload_n 0, 1) := by decide +kernel
theorem dX3_readRuns_18 : decode cX3_readRuns 18 = .ok (.getfield 38, 3) := by decide +kernel
theorem dX3_readRuns_21 : decode cX3_readRuns 21 = .ok (.if_icmp .ge 55, 3) := by decide +kernel
theorem dX3_readRuns_24 : decode cX3_readRuns 24 = .ok (.aload_n 0, 1) := by decide +kernel
theorem dX3_readRuns_25 : decode cX3_readRuns 25 = .ok (.iload_n 2, 1) := by decide +kernel
theorem dX3_readRuns_26 : decode cX3_readRuns 26 = .ok (.invokevirtual 135, 3) := by decide +kernel
theorem dX3_readRuns_29 : decode cX3_readRuns 29 = .ok (.istore 4, 2) := by decide +kernel
theorem dX3_readRuns_31 : decode cX3_readRuns 31 = .ok (.iload 4, 2) := by decide +kernel
theorem dX3_readRuns_33 : decode cX3_readRuns 33 = .ok (.iconst (-1), 1) := by decide +kernel
theorem dX3_readRuns_34 : decode cX3_readRuns 34 = .ok (.if_icmp .eq 14, 3) := by decide +kernel
theorem dX3_readRuns_37 : decode cX3_readRuns 37 = .ok (.iload 4, 2) := by decide +kernel
theorem dX3_readRuns_39 : decode cX3_readRuns 39 = .ok (.aload_n 0, 1) := by decide +kernel
theorem dX3_readRuns_40 : decode cX3_readRuns 40 = .ok (.getfield 38, 3) := by decide +kernel
theorem dX3_readRuns_43 : decode cX3_readRuns 43 = .ok (.iload_n 1, 1) := by decide +kernel
theorem dX3_readRuns_44 : decode cX3_readRuns 44 = .ok (.isub, 1) := by decide +kernel
theorem dX3_readRuns_45 : decode cX3_readRuns 45 = .ok (.if_icmp .le 5, 3) := by decide +kernel
theorem dX3_readRuns_48 : decode cX3_readRuns 48 = .ok (.iconst 1, 1) := by decide +kernel
theorem dX3_readRuns_49 : decode cX3_readRuns 49 = .ok (.ireturn, 1) := by decide +kernel
theorem dX3_readRuns_50 : decode cX3_readRuns 50 = .ok (.iload_n 1, 1) := by decide +kernel
theorem dX3_readRuns_51 : decode cX3_readRuns 51 = .ok (.iload 4, 2) := by decide +kernel
theorem dX3_readRuns_53 : decode cX3_readRuns 53 = .ok (.iadd, 1) := by decide +kernel
theorem dX3_readRuns_54 : decode cX3_readRuns 54 = .ok (.istore_n 1, 1) := by decide +kernel
theorem dX3_readRuns_55 : decode cX3_readRuns 55 = .ok (.aload_n 0, 1) := by decide +kernel
theorem dX3_readRuns_56 : decode cX3_readRuns 56 = .ok (.iload_n 1, 1) := by decide +kernel
theorem dX3_readRuns_57 : decode cX3_readRuns 57 = .ok (.invokevirtual 139, 3) := by decide +kernel
theorem dX3_readRuns_60 : decode cX3_readRuns 60 = .ok (.iload_n 2, 1) := by decide +kernel
theorem dX3_readRuns_61 : decode cX3_readRuns 61 = .ok (.ifCond .ne 7, 3) := by decide +kernel
theorem dX3_readRuns_64 : decode cX3_readRuns 64 = .ok (.iconst 1, 1) := by decide +kernel
theorem dX3_readRuns_65 : decode cX3_readRuns 65 = .ok (.goto 4, 3) := by decide +kernel
theorem dX3_readRuns_68 : decode cX3_readRuns 68 = .ok (.iconst 0, 1) := by decide +kernel
theorem dX3_readRuns_69 : decode cX3_readRuns 69 = .ok (.istore_n 2, 1) := by decide +kernel
theorem dX3_readRuns_70 : decode cX3_readRuns 70 = .ok (.iinc 3 (-1), 3) := by decide +kernel
theorem dX3_readRuns_73 : decode cX3_readRuns 73 = .ok (.goto (-61), 3) := by decide +kernel
theorem dX3_readRuns_76 : decode cX3_readRuns 76 = .ok (.iload_n 1, 1) := by decide +kernel
theorem dX3_readRuns_77 : decode cX3_readRuns 77 = .ok (.aload_n 0, 1) := by decide +kernel
theorem dX3_readRuns_78 : decode cX3_readRuns 78 = .ok (.getfield 38, 3) := by decide +kernel
theorem dX3_readRuns_81 : decode cX3_readRuns 81 = .ok (.if_icmp .ne 7, 3) := by decide +kernel
theorem dX3_readRuns_84 : decode cX3_readRuns 84 = .ok (.iconst 0, 1) := by decide +kernel
theorem dX3_readRuns_85 : decode cX3_readRuns 85 = .ok (.goto 4, 3) := by decide +kernel
theorem dX3_readRuns_88 : decode cX3_readRuns 88 = .ok (.iconst 1, 1) := by decide +kernel
theorem dX3_readRuns_89 : decode cX3_readRuns 89 = .ok (.ireturn, 1) := by decide +kernel
abbrev po_c_X3_readRuns (g : GG) (h0 : Nat) (w : Int) (r : Nat) (md : Nat) (dm : Nat) (t1 : Nat) (t2 : Nat) (t3 : Nat) (td : Nat) (b1 : Nat) (n1 : Nat) (b2 : Nat) (n2 : Nat) (f1 : Nat → Int32) (f2 : Nat → Int32) (d1 : Int32) (d2 : Int32) (src : Nat) (ba : Nat) (n : Nat) (f : Nat → Int32) (cb : Int) (pl : Int) (tu : Int) (rs : Nat) (it : Nat) (m : Nat) (c : Int) (F : Nat → Int) (fs : Nat → Int32) (fi : Nat → Int32) (e : Int) : Option Value → va_W → Nat → Nat → Prop := fun v8 w8 kc8 ks8 => ∃ i2 : Nat, ∃ m2 : Nat, ∃ s2 : Nat → Int32, ∃ g2 : Nat → Int32, ∃ e2 : Int, ∃ q : Int, ∃ p2_ : Int, v8 = some (.int (iI q)) ∧ w8 = [(h0, ob 3 [.int (iI w), .ref r, .ref md, .ref dm, .ref t1, .ref t2, .ref t3, .ref td, .ref src]), (t1, ob 1 [.ref b1, .int d1]), (b1, aI g n1 f1), (t2, ob 1 [.ref b2, .int d2]), (b2, aI g n2 f2), (src, ob 0 [.ref ba, .int (iI cb), .int (iI p2_), .int (iI tu)]), (ba, aB g n f), (r, ob 2 [.ref rs, .ref i2, .int (iI c)]), (rs, aI g 27 s2), (i2, aI g m2 g2)] ∧ (LB c (fU F (c.toNat + 1) e2) s2 m2) ∧ (RI w c F g2) ∧ (F c.toNat ≤ e2) ∧ (inc g2 (F c.toNat) e2 w) ∧ (ks8 + 2 * m ≤ 2 * m2 ∧ 64 * kc8 ≤ ks8 ∧ m ≤ m2 ∧ m2 ≤ 160000) ∧ (∀ j : Nat, (j : Int) < F c.toNat → g2 j = fi j) ∧ (0 ≤ q ∧ q ≤ 1) ∧ (pl ≤ p2_ ∧ p2_ ≤ cb)
set_option maxHeartbeats 4000000 in
set_option maxRecDepth 100000 in
theorem c_X3_readRuns (l : Launch) (g : GG) (h0 : Nat) (w : Int) (r : Nat) (md : Nat) (dm : Nat) (t1 : Nat) (t2 : Nat) (t3 : Nat) (td : Nat) (b1 : Nat) (n1 : Nat) (b2 : Nat) (n2 : Nat) (f1 : Nat → Int32) (f2 : Nat → Int32) (d1 : Int32) (d2 : Int32) (src : Nat) (ba : Nat) (n : Nat) (f : Nat → Int32) (cb : Int) (pl : Int) (tu : Int) (rs : Nat) (it : Nat) (m : Nat) (c : Int) (F : Nat → Int) (fs : Nat → Int32) (fi : Nat → Int32) (e : Int) (hp0 : 0 ≤ cb ∧ cb ≤ 8 * (n : Int) ∧ 64 ≤ n ∧ n ≤ 130000 ∧ cb ≤ 508000) (hp1 : bF f) (hp2 : 0 ≤ pl ∧ pl ≤ cb) (hp3 : n1 < 100000 ∧ n2 < 100000) (hp4 : lo f1) (hp5 : lo f2) (hp6 : LB c (fU F (c.toNat + 1) e) fs m) (hp7 : RI w c F fi) (hp8 : F c.toNat ≤ e) (hp9 : inc fi (F c.toNat) e w) (hp10 : c ≤ 24 ∧ m ≤ 160000) (hp11 : 1 ≤ w ∧ w ≤ 3000) (hp12 : e = F c.toNat) : CtE l g yX3_readRuns (wM yX3_readRuns cX3_readRuns 5 (some .int)) (rmD 4 5010 660000) [.ref h0] [(h0, ob 3 [.int (iI w), .ref r, .ref md, .ref dm, .ref t1, .ref t2, .ref t3, .ref td, .ref src]), (t1, ob 1 [.ref b1, .int d1]), (b1, aI g n1 f1), (t2, ob 1 [.ref b2, .int d2]), (b2, aI g n2 f2), (src, ob 0 [.ref ba, .int (iI cb), .int (iI pl), .int (iI tu)]), (ba, aB g n f), (r, ob 2 [.ref rs, .ref it, .int (iI c)]), (rs, aI g 27 fs), (it, aI g m fi)] (po_c_X3_readRuns g h0 w r md dm t1 t2 t3 td b1 n1 b2 n2 f1 f2 d1 d2 src ba n f cb pl tu rs it m c F fs fi e) := by
  refine CtE_of (by decide +kernel) (Nat.le_of_ble_eq_true rfl) ?_
  intro p9 e9 s9 m9 ag9 bl9 mt9 c9 A9 fx hr hnm
  refine v_iconst fx dX3_readRuns_0 rfl ?_
  refine v_istore_n fx [(1, .int (iI 0)), (0, .ref h0)] dX3_readRuns_1 (by decide) rfl rfl ?_
  refine v_iconst fx dX3_readRuns_2 rfl ?_
  refine v_istore_n fx [(2, .int (iI 0)), (1, .int (iI 0)), (0, .ref h0)] dX3_readRuns_3 (by decide) rfl rfl ?_
  refine v_aload_n fx 2 dX3_readRuns_4 rfl rfl ?_
  refine v_get fx 0 8 inX3 k256 dX3_readRuns_5 rfl rfl (by decide) rfl rfl rfl ?_
  refine v_callV (As := []) (rest := []) fx [5] [0, 1, 2, 3, 4, 6, 7, 8, 9] [(src, ob 0 [.ref ba, .int (iI cb), .int (iI pl), .int (iI tu)])] [(h0, ob 3 [.int (iI w), .ref r, .ref md, .ref dm, .ref t1, .ref t2, .ref t3, .ref td, .ref src]), (t1, ob 1 [.ref b1, .int d1]), (b1, aI g n1 f1), (t2, ob 1 [.ref b2, .int d2]), (b2, aI g n2 f2), (ba, aB g n f), (r, ob 2 [.ref rs, .ref it, .int (iI c)]), (rs, aI g 27 fs), (it, aI g m fi)] 0 0 (c_X0_left l g src ba cb pl tu ) dX3_readRuns_8 k820 k821 k822 k50 k823 ykX0_left rfl rfl rfl rfl rfl rfl rfl rfl (nl rfl) ⟨nl rfl, nl rfl⟩ ⟨(nl rfl), (nl rfl)⟩ rfl (fun v9 w9 hu => ?_)
  obtain ⟨rfl, rfl⟩ := hu
  refine v_is (wn := [(h0, ob 3 [.int (iI w), .ref r, .ref md, .ref dm, .ref t1, .ref t2, .ref t3, .ref td, .ref src]), (t1, ob 1 [.ref b1, .int d1]), (b1, aI g n1 f1), (t2, ob 1 [.ref b2, .int d2]), (b2, aI g n2 f2), (ba, aB g n f), (r, ob 2 [.ref rs, .ref it, .int (iI c)]), (rs, aI g 27 fs), (it, aI g m fi), (src, ob 0 [.ref ba, .int (iI cb), .int (iI pl), .int (iI tu)])]) (cn := 0) (sn := 0) (sn2 := [.int (iI (cb - pl))]) rfl rfl rfl rfl ?_
  refine v_istore_n fx [(3, .int (iI (cb - pl))), (2, .int (iI 0)), (1, .int (iI 0)), (0, .ref h0)] dX3_readRuns_11 (by decide) rfl rfl ?_
  have L12 : ∀ (N : Nat) (mo : Int) (x : Int) (bk : Int) (p1 : Int) (t9 : Nat) (m9_ : Nat) (s9_ : Nat → Int32) (g9 : Nat → Int32) (e9_ : Int) (cl : Nat) (sl : Nat), (LB c (fU F (c.toNat + 1) e9_) s9_ m9_) → (RI w c F g9) → (F c.toNat ≤ e9_) → (inc g9 (F c.toNat) e9_ w) → (m9_ ≤ 160000 ∧ m ≤ m9_ ∧ sl + 2 * m ≤ 2 * m9_ ∧ 64 * cl ≤ sl) → (∀ j : Nat, (j : Int) < F c.toNat → g9 j = fi j) → (0 ≤ mo ∧ mo ≤ cb - pl) → (0 ≤ x ∧ x ≤ w) → (0 ≤ bk ∧ bk ≤ 1) → (pl ≤ p1 ∧ p1 ≤ cb) → (inc g9 (F c.toNat) e9_ (x + 1)) → mo.toNat < N → V p9 l e9 (rmD 4 5010 660000) s9 m9 ag9 bl9 mt9 c9 5 g A9 (MQE bl9 (cQE g (po_c_X3_readRuns g h0 w r md dm t1 t2 t3 td b1 n1 b2 n2 f1 f2 d1 d2 src ba n f cb pl tu rs it m c F fs fi e) A9) ag9 s9 A9) [(h0, ob 3 [.int (iI w), .ref r, .ref md, .ref dm, .ref t1, .ref t2, .ref t3, .ref td, .ref src]), (t1, ob 1 [.ref b1, .int d1]), (b1, aI g n1 f1), (t2, ob 1 [.ref b2, .int d2]), (b2, aI g n2 f2), (src, ob 0 [.ref ba, .int (iI cb), .int (iI p1), .int (iI tu)]), (ba, aB g n f), (r, ob 2 [.ref rs, .ref t9, .int (iI c)]), (rs, aI g 27 s9_), (t9, aI g m9_ g9)] cl sl [(0, .ref h0), (1, .int (iI x)), (2, .int (iI bk)), (3, .int (iI mo))] 12 [] := by
    intro N
    induction N with
    | zero => intro mo x bk p1 t9 m9_ s9_ g9 e9_ cl sl hi12_0 hi12_1 hi12_2 hi12_3 hi12_4 hi12_5 hi12_6 hi12_7 hi12_8 hi12_9 hi12_10 hN; exact absurd hN (Nat.not_lt_zero _)
    | succ N ihL12 =>
      intro mo x bk p1 t9 m9_ s9_ g9 e9_ cl sl hi12_0 hi12_1 hi12_2 hi12_3 hi12_4 hi12_5 hi12_6 hi12_7 hi12_8 hi12_9 hi12_10 hN12
      refine v_iload_n fx 3 dX3_readRuns_12 rfl rfl ?_
      refine v_if_le fx 76 dX3_readRuns_13 (by decide) rfl (by omega) (fun h_1 => ?_) (fun h_1 => ?_)
      ·
        refine v_iload_n fx 1 dX3_readRuns_76 rfl rfl ?_
        refine v_aload_n fx 0 dX3_readRuns_77 rfl rfl ?_
        refine v_get fx 0 0 inX3 k248 dX3_readRuns_78 rfl rfl (by decide) rfl rfl rfl ?_
        refine v_icmp_ne fx 88 dX3_readRuns_81 (by decide) rfl (by omega) (by omega) (fun h_2 => ?_) (fun h_2 => ?_)
        ·
          refine v_iconst fx dX3_readRuns_88 rfl ?_
          exact v_iretE fx [(h0, ob 3 [.int (iI w), .ref r, .ref md, .ref dm, .ref t1, .ref t2, .ref t3, .ref td, .ref src]), (t1, ob 1 [.ref b1, .int d1]), (b1, aI g n1 f1), (t2, ob 1 [.ref b2, .int d2]), (b2, aI g n2 f2), (src, ob 0 [.ref ba, .int (iI cb), .int (iI p1), .int (iI tu)]), (ba, aB g n f), (r, ob 2 [.ref rs, .ref t9, .int (iI c)]), (rs, aI g 27 s9_), (t9, aI g m9_ g9)] [0, 1, 2, 3, 4, 5, 6, 7, 8, 9] hr dX3_readRuns_89 rfl rfl ⟨t9, m9_, s9_, g9, e9_, 1, p1, rfl, rfl, (by exact hi12_0), (by exact hi12_1), (by first | omega | rfl | assumption), (by exact hi12_3), (by first | omega | rfl | assumption), (by exact hi12_5), (by first | omega | rfl | assumption), (by first | omega | rfl | assumption)⟩
        ·
          refine v_iconst fx dX3_readRuns_84 rfl ?_
          refine v_goto fx 89 dX3_readRuns_85 (by decide) ?_
          exact v_iretE fx [(h0, ob 3 [.int (iI w), .ref r, .ref md, .ref dm, .ref t1, .ref t2, .ref t3, .ref td, .ref src]), (t1, ob 1 [.ref b1, .int d1]), (b1, aI g n1 f1), (t2, ob 1 [.ref b2, .int d2]), (b2, aI g n2 f2), (src, ob 0 [.ref ba, .int (iI cb), .int (iI p1), .int (iI tu)]), (ba, aB g n f), (r, ob 2 [.ref rs, .ref t9, .int (iI c)]), (rs, aI g 27 s9_), (t9, aI g m9_ g9)] [0, 1, 2, 3, 4, 5, 6, 7, 8, 9] hr dX3_readRuns_89 rfl rfl ⟨t9, m9_, s9_, g9, e9_, 0, p1, rfl, rfl, (by exact hi12_0), (by exact hi12_1), (by first | omega | rfl | assumption), (by exact hi12_3), (by first | omega | rfl | assumption), (by exact hi12_5), (by first | omega | rfl | assumption), (by first | omega | rfl | assumption)⟩
      ·
        refine v_iload_n fx 1 dX3_readRuns_16 rfl rfl ?_
        refine v_aload_n fx 0 dX3_readRuns_17 rfl rfl ?_
        refine v_get fx 0 0 inX3 k248 dX3_readRuns_18 rfl rfl (by decide) rfl rfl rfl ?_
        refine v_icmp_ge fx 76 dX3_readRuns_21 (by decide) rfl (by omega) (by omega) (fun h_3 => ?_) (fun h_3 => ?_)
        ·
          refine v_iload_n fx 1 dX3_readRuns_76 rfl rfl ?_
          refine v_aload_n fx 0 dX3_readRuns_77 rfl rfl ?_
          refine v_get fx 0 0 inX3 k248 dX3_readRuns_78 rfl rfl (by decide) rfl rfl rfl ?_
          refine v_icmp_ne fx 88 dX3_readRuns_81 (by decide) rfl (by omega) (by omega) (fun h_4 => ?_) (fun h_4 => ?_)
          ·
            refine v_iconst fx dX3_readRuns_88 rfl ?_
            exact v_iretE fx [(h0, ob 3 [.int (iI w), .ref r, .ref md, .ref dm, .ref t1, .ref t2, .ref t3, .ref td, .ref src]), (t1, ob 1 [.ref b1, .int d1]), (b1, aI g n1 f1), (t2, ob 1 [.ref b2, .int d2]), (b2, aI g n2 f2), (src, ob 0 [.ref ba, .int (iI cb), .int (iI p1), .int (iI tu)]), (ba, aB g n f), (r, ob 2 [.ref rs, .ref t9, .int (iI c)]), (rs, aI g 27 s9_), (t9, aI g m9_ g9)] [0, 1, 2, 3, 4, 5, 6, 7, 8, 9] hr dX3_readRuns_89 rfl rfl ⟨t9, m9_, s9_, g9, e9_, 1, p1, rfl, rfl, (by exact hi12_0), (by exact hi12_1), (by first | omega | rfl | assumption), (by exact hi12_3), (by first | omega | rfl | assumption), (by exact hi12_5), (by first | omega | rfl | assumption), (by first | omega | rfl | assumption)⟩
          ·
            refine v_iconst fx dX3_readRuns_84 rfl ?_
            refine v_goto fx 89 dX3_readRuns_85 (by decide) ?_
            exact v_iretE fx [(h0, ob 3 [.int (iI w), .ref r, .ref md, .ref dm, .ref t1, .ref t2, .ref t3, .ref td, .ref src]), (t1, ob 1 [.ref b1, .int d1]), (b1, aI g n1 f1), (t2, ob 1 [.ref b2, .int d2]), (b2, aI g n2 f2), (src, ob 0 [.ref ba, .int (iI cb), .int (iI p1), .int (iI tu)]), (ba, aB g n f), (r, ob 2 [.ref rs, .ref t9, .int (iI c)]), (rs, aI g 27 s9_), (t9, aI g m9_ g9)] [0, 1, 2, 3, 4, 5, 6, 7, 8, 9] hr dX3_readRuns_89 rfl rfl ⟨t9, m9_, s9_, g9, e9_, 0, p1, rfl, rfl, (by exact hi12_0), (by exact hi12_1), (by first | omega | rfl | assumption), (by exact hi12_3), (by first | omega | rfl | assumption), (by exact hi12_5), (by first | omega | rfl | assumption), (by first | omega | rfl | assumption)⟩
        ·
          refine v_aload_n fx 0 dX3_readRuns_24 rfl rfl ?_
          refine v_iload_n fx 2 dX3_readRuns_25 rfl rfl ?_
          refine v_callV (As := [.int (iI bk)]) (rest := []) fx [0, 1, 2, 3, 4, 5, 6] [7, 8, 9] [(h0, ob 3 [.int (iI w), .ref r, .ref md, .ref dm, .ref t1, .ref t2, .ref t3, .ref td, .ref src]), (t1, ob 1 [.ref b1, .int d1]), (b1, aI g n1 f1), (t2, ob 1 [.ref b2, .int d2]), (b2, aI g n2 f2), (src, ob 0 [.ref ba, .int (iI cb), .int (iI p1), .int (iI tu)]), (ba, aB g n f)] [(r, ob 2 [.ref rs, .ref t9, .int (iI c)]), (rs, aI g 27 s9_), (t9, aI g m9_ g9)] 1 0 (c_X3_readRun l g h0 w r md dm t1 t2 t3 td b1 n1 b2 n2 f1 f2 d1 d2 src ba n f cb p1 tu bk (by first | omega | decide | assumption) (by exact hp1) (by first | omega | decide | assumption) (by first | omega | decide | assumption) (by exact hp4) (by exact hp5) (by first | omega | decide | assumption)) dX3_readRuns_26 k844 k846 k15 k53 k847 ykX3_readRun rfl rfl rfl rfl rfl rfl rfl rfl (nl rfl) ⟨nl rfl, nl rfl⟩ ⟨(by show cl + 0 ≤ 5010; omega), (by show sl + 0 ≤ 660000; omega)⟩ rfl (fun v9 w9 hu => ?_)
          obtain ⟨rn, pr, rfl, rfl, u_5⟩ := hu
          refine v_is (wn := [(r, ob 2 [.ref rs, .ref t9, .int (iI c)]), (rs, aI g 27 s9_), (t9, aI g m9_ g9), (h0, ob 3 [.int (iI w), .ref r, .ref md, .ref dm, .ref t1, .ref t2, .ref t3, .ref td, .ref src]), (t1, ob 1 [.ref b1, .int d1]), (b1, aI g n1 f1), (t2, ob 1 [.ref b2, .int d2]), (b2, aI g n2 f2), (src, ob 0 [.ref ba, .int (iI cb), .int (iI pr), .int (iI tu)]), (ba, aB g n f)]) (cn := cl) (sn := sl) (sn2 := [.int (iI rn)]) rfl rfl rfl rfl ?_
          refine v_istore fx [(4, .int (iI rn)), (0, .ref h0), (1, .int (iI x)), (2, .int (iI bk)), (3, .int (iI mo))] dX3_readRuns_29 (by decide) rfl rfl ?_
          refine v_iload fx 0 dX3_readRuns_31 rfl rfl ?_
          refine v_iconst fx dX3_readRuns_33 rfl ?_
          refine v_icmp_eq fx 48 dX3_readRuns_34 (by decide) rfl (by omega) (by omega) (fun h_6 => ?_) (fun h_6 => ?_)
          ·
            refine v_iconst fx dX3_readRuns_48 rfl ?_
            exact v_iretE fx [(h0, ob 3 [.int (iI w), .ref r, .ref md, .ref dm, .ref t1, .ref t2, .ref t3, .ref td, .ref src]), (t1, ob 1 [.ref b1, .int d1]), (b1, aI g n1 f1), (t2, ob 1 [.ref b2, .int d2]), (b2, aI g n2 f2), (src, ob 0 [.ref ba, .int (iI cb), .int (iI pr), .int (iI tu)]), (ba, aB g n f), (r, ob 2 [.ref rs, .ref t9, .int (iI c)]), (rs, aI g 27 s9_), (t9, aI g m9_ g9)] [3, 4, 5, 6, 7, 8, 9, 0, 1, 2] hr dX3_readRuns_49 rfl rfl ⟨t9, m9_, s9_, g9, e9_, 1, pr, rfl, rfl, (by exact hi12_0), (by exact hi12_1), (by first | omega | rfl | assumption), (by exact hi12_3), (by first | omega | rfl | assumption), (by exact hi12_5), (by first | omega | rfl | assumption), (by first | omega | rfl | assumption)⟩
          ·
            refine v_iload fx 0 dX3_readRuns_37 rfl rfl ?_
            refine v_aload_n fx 1 dX3_readRuns_39 rfl rfl ?_
            refine v_get fx 3 0 inX3 k248 dX3_readRuns_40 rfl rfl (by decide) rfl rfl rfl ?_
            refine v_iload_n fx 2 dX3_readRuns_43 rfl rfl ?_
            refine v_isub fx (w - x) dX3_readRuns_44 (by rfl) rfl ?_
            refine v_icmp_le fx 50 dX3_readRuns_45 (by decide) rfl (by omega) (by omega) (fun h_7 => ?_) (fun h_7 => ?_)
            ·
              refine v_iload_n fx 2 dX3_readRuns_50 rfl rfl ?_
              refine v_iload fx 0 dX3_readRuns_51 rfl rfl ?_
              refine v_iadd fx (x + rn) dX3_readRuns_53 (by rfl) rfl ?_
              refine v_istore_n fx [(1, .int (iI (x + rn))), (4, .int (iI rn)), (0, .ref h0), (2, .int (iI bk)), (3, .int (iI mo))] dX3_readRuns_54 (by decide) rfl rfl ?_
              refine v_aload_n fx 2 dX3_readRuns_55 rfl rfl ?_
              refine v_iload_n fx 0 dX3_readRuns_56 rfl rfl ?_
              refine v_callVE (As := [.int (iI (x + rn))]) (rest := []) fx [3, 0, 1, 2] [4, 5, 6, 7, 8, 9] [(h0, ob 3 [.int (iI w), .ref r, .ref md, .ref dm, .ref t1, .ref t2, .ref t3, .ref td, .ref src]), (r, ob 2 [.ref rs, .ref t9, .int (iI c)]), (rs, aI g 27 s9_), (t9, aI g m9_ g9)] [(t1, ob 1 [.ref b1, .int d1]), (b1, aI g n1 f1), (t2, ob 1 [.ref b2, .int d2]), (b2, aI g n2 f2), (src, ob 0 [.ref ba, .int (iI cb), .int (iI pr), .int (iI tu)]), (ba, aB g n f)] 1 0 (c_X3_turnAt l g h0 w r md dm t1 t2 t3 td src rs t9 m9_ c F s9_ g9 e9_ (x + rn) (by exact hi12_0) (by exact hi12_1) (by first | omega | decide | assumption) (by exact hi12_3) (by first | omega | decide | assumption) (by first | omega | decide | assumption) (by exact inc_mono hi12_10 (by omega)) (by first | omega | decide | assumption)) dX3_readRuns_57 k848 k850 k16 k53 k851 ykX3_turnAt rfl rfl rfl rfl rfl rfl rfl rfl (nl rfl) ⟨nl rfl, nl rfl⟩ ⟨(by show cl + 1 ≤ 5010; omega), (by show sl + 330000 ≤ 660000; omega)⟩ rfl (fun v9 w9 kc_8 ks_9 hu => ?_)
              obtain ⟨i2_10, m2_11, s2_12, g2_13, e2_14, rfl, rfl, u_15, u_16, u_17, u_18, u_19, u_20, u_21⟩ := hu
              refine v_is (wn := [(t1, ob 1 [.ref b1, .int d1]), (b1, aI g n1 f1), (t2, ob 1 [.ref b2, .int d2]), (b2, aI g n2 f2), (src, ob 0 [.ref ba, .int (iI cb), .int (iI pr), .int (iI tu)]), (ba, aB g n f), (h0, ob 3 [.int (iI w), .ref r, .ref md, .ref dm, .ref t1, .ref t2, .ref t3, .ref td, .ref src]), (r, ob 2 [.ref rs, .ref i2_10, .int (iI c)]), (rs, aI g 27 s2_12), (i2_10, aI g m2_11 g2_13)]) (cn := cl + kc_8) (sn := sl + ks_9) (sn2 := []) rfl rfl rfl rfl ?_
              have hkp := u_20
              refine v_iload_n fx 3 dX3_readRuns_60 rfl rfl ?_
              refine v_if_ne fx 68 dX3_readRuns_61 (by decide) rfl (by omega) (fun h_22 => ?_) (fun h_22 => ?_)
              ·
                refine v_iconst fx dX3_readRuns_68 rfl ?_
                refine v_istore_n fx [(2, .int (iI 0)), (1, .int (iI (x + rn))), (4, .int (iI rn)), (0, .ref h0), (3, .int (iI mo))] dX3_readRuns_69 (by decide) rfl rfl ?_
                refine v_iinc fx 4 (mo - 1) [(3, .int (iI (mo - 1))), (2, .int (iI 0)), (1, .int (iI (x + rn))), (4, .int (iI rn)), (0, .ref h0)] dX3_readRuns_70 rfl (by omega) (by decide) rfl rfl ?_
                refine v_goto fx 12 dX3_readRuns_73 (by decide) ?_
                refine v_ws [6, 0, 1, 2, 3, 4, 5, 7, 8, 9] [(h0, ob 3 [.int (iI w), .ref r, .ref md, .ref dm, .ref t1, .ref t2, .ref t3, .ref td, .ref src]), (t1, ob 1 [.ref b1, .int d1]), (b1, aI g n1 f1), (t2, ob 1 [.ref b2, .int d2]), (b2, aI g n2 f2), (src, ob 0 [.ref ba, .int (iI cb), .int (iI pr), .int (iI tu)]), (ba, aB g n f), (r, ob 2 [.ref rs, .ref i2_10, .int (iI c)]), (rs, aI g 27 s2_12), (i2_10, aI g m2_11 g2_13)] rfl rfl ?_
                refine v_lv [4, 2, 1, 0] [(0, .ref h0), (1, .int (iI (x + rn))), (2, .int (iI 0)), (3, .int (iI (mo - 1)))] rfl ?_
                exact ihL12 (mo - 1) (x + rn) 0 pr i2_10 m2_11 s2_12 g2_13 e2_14 (cl + kc_8) (sl + ks_9) (by assumption) (by assumption) (by omega) (by assumption) (by omega) (by exact fun j hj => (hkp j hj).trans (hi12_5 j hj)) (by omega) (by omega) (by omega) (by omega) (by assumption) (by omega)
              ·
                refine v_iconst fx dX3_readRuns_64 rfl ?_
                refine v_goto fx 69 dX3_readRuns_65 (by decide) ?_
                refine v_istore_n fx [(2, .int (iI 1)), (1, .int (iI (x + rn))), (4, .int (iI rn)), (0, .ref h0), (3, .int (iI mo))] dX3_readRuns_69 (by decide) rfl rfl ?_
                refine v_iinc fx 4 (mo - 1) [(3, .int (iI (mo - 1))), (2, .int (iI 1)), (1, .int (iI (x + rn))), (4, .int (iI rn)), (0, .ref h0)] dX3_readRuns_70 rfl (by omega) (by decide) rfl rfl ?_
                refine v_goto fx 12 dX3_readRuns_73 (by decide) ?_
                refine v_ws [6, 0, 1, 2, 3, 4, 5, 7, 8, 9] [(h0, ob 3 [.int (iI w), .ref r, .ref md, .ref dm, .ref t1, .ref t2, .ref t3, .ref td, .ref src]), (t1, ob 1 [.ref b1, .int d1]), (b1, aI g n1 f1), (t2, ob 1 [.ref b2, .int d2]), (b2, aI g n2 f2), (src, ob 0 [.ref ba, .int (iI cb), .int (iI pr), .int (iI tu)]), (ba, aB g n f), (r, ob 2 [.ref rs, .ref i2_10, .int (iI c)]), (rs, aI g 27 s2_12), (i2_10, aI g m2_11 g2_13)] rfl rfl ?_
                refine v_lv [4, 2, 1, 0] [(0, .ref h0), (1, .int (iI (x + rn))), (2, .int (iI 1)), (3, .int (iI (mo - 1)))] rfl ?_
                exact ihL12 (mo - 1) (x + rn) 1 pr i2_10 m2_11 s2_12 g2_13 e2_14 (cl + kc_8) (sl + ks_9) (by assumption) (by assumption) (by omega) (by assumption) (by omega) (by exact fun j hj => (hkp j hj).trans (hi12_5 j hj)) (by omega) (by omega) (by omega) (by omega) (by assumption) (by omega)
            ·
              refine v_iconst fx dX3_readRuns_48 rfl ?_
              exact v_iretE fx [(h0, ob 3 [.int (iI w), .ref r, .ref md, .ref dm, .ref t1, .ref t2, .ref t3, .ref td, .ref src]), (t1, ob 1 [.ref b1, .int d1]), (b1, aI g n1 f1), (t2, ob 1 [.ref b2, .int d2]), (b2, aI g n2 f2), (src, ob 0 [.ref ba, .int (iI cb), .int (iI pr), .int (iI tu)]), (ba, aB g n f), (r, ob 2 [.ref rs, .ref t9, .int (iI c)]), (rs, aI g 27 s9_), (t9, aI g m9_ g9)] [3, 4, 5, 6, 7, 8, 9, 0, 1, 2] hr dX3_readRuns_49 rfl rfl ⟨t9, m9_, s9_, g9, e9_, 1, pr, rfl, rfl, (by exact hi12_0), (by exact hi12_1), (by first | omega | rfl | assumption), (by exact hi12_3), (by first | omega | rfl | assumption), (by exact hi12_5), (by first | omega | rfl | assumption), (by first | omega | rfl | assumption)⟩
  refine v_ws [0, 1, 2, 3, 4, 9, 5, 6, 7, 8] [(h0, ob 3 [.int (iI w), .ref r, .ref md, .ref dm, .ref t1, .ref t2, .ref t3, .ref td, .ref src]), (t1, ob 1 [.ref b1, .int d1]), (b1, aI g n1 f1), (t2, ob 1 [.ref b2, .int d2]), (b2, aI g n2 f2), (src, ob 0 [.ref ba, .int (iI cb), .int (iI pl), .int (iI tu)]), (ba, aB g n f), (r, ob 2 [.ref rs, .ref it, .int (iI c)]), (rs, aI g 27 fs), (it, aI g m fi)] rfl rfl ?_
  refine v_lv [3, 2, 1, 0] [(0, .ref h0), (1, .int (iI 0)), (2, .int (iI 0)), (3, .int (iI (cb - pl)))] rfl ?_
  exact L12 _ (cb - pl) 0 0 pl it m fs fi e 0 0 (by exact hp6) (by exact hp7) (by omega) (by exact hp9) (by omega) (by exact fun _ _ => rfl) (by omega) (by omega) (by omega) (by omega) (by rw [hp12]; exact inc_none) (Nat.lt_succ_self _)
theorem dX3_turnBesideB1_0 : decode cX3_turnBesideB1 0 = .ok (.aload_n 0, 1) := by decide +kernel
theorem dX3_turnBesideB1_1 : decode cX3_turnBesideB1 1 = .ok (.getfield 68, 3) := by decide +kernel
theorem dX3_turnBesideB1_4 : decode cX3_turnBesideB1 4 = .ok (.invokevirtual 167, 3) := by decide +kernel
theorem dX3_turnBesideB1_7 : decode cX3_turnBesideB1 7 = .ok (.iload_n 1, 1) := by decide +kernel
theorem dX3_turnBesideB1_8 : decode cX3_turnBesideB1 8 = .ok (.iadd, 1) := by decide +kernel
theorem dX3_turnBesideB1_9 : decode cX3_turnBesideB1 9 = .ok (.istore_n 2, 1) := by decide +kernel
theorem dX3_turnBesideB1_10 : decode cX3_turnBesideB1 10 = .ok (.iload_n 2, 1) := by decide +kernel
theorem dX3_turnBesideB1_11 : decode cX3_turnBesideB1 11 = .ok (.aload_n 0, 1) := by decide +kernel
theorem dX3_turnBesideB1_12 : decode cX3_turnBesideB1 12 = .ok (.getfield 38, 3) := by decide +kernel
theorem dX3_turnBesideB1_15 : decode cX3_turnBesideB1 15 = .ok (.if_icmp .gt 14, 3) := by decide +kernel
theorem dX3_turnBesideB1_18 : decode cX3_turnBesideB1 18 = .ok (.iload_n 2, 1) := by decide +kernel
theorem dX3_turnBesideB1_19 : decode cX3_turnBesideB1 19 = .ok (.aload_n 0, 1) := by decide +kernel
theorem dX3_turnBesideB1_20 : decode cX3_turnBesideB1 20 = .ok (.getfield 68, 3) := by decide +kernel
theorem dX3_turnBesideB1_23 : decode cX3_turnBesideB1 23 = .ok (.invokevirtual 170, 3) := by decide +kernel
theorem dX3_turnBesideB1_26 : decode cX3_turnBesideB1 26 = .ok (.if_icmp .gt 5, 3) := by decide +kernel
theorem dX3_turnBesideB1_29 : decode cX3_turnBesideB1 29 = .ok (.iconst 0, 1) := by decide +kernel
theorem dX3_turnBesideB1_30 : decode cX3_turnBesideB1 30 = .ok (.ireturn, 1) := by decide +kernel
theorem dX3_turnBesideB1_31 : decode cX3_turnBesideB1 31 = .ok (.aload_n 0, 1) := by decide +kernel
theorem dX3_turnBesideB1_32 : decode cX3_turnBesideB1 32 = .ok (.iload_n 2, 1) := by decide +kernel
theorem dX3_turnBesideB1_33 : decode cX3_turnBesideB1 33 = .ok (.invokevirtual 139, 3) := by decide +kernel
theorem dX3_turnBesideB1_36 : decode cX3_turnBesideB1 36 = .ok (.aload_n 0, 1) := by decide +kernel
theorem dX3_turnBesideB1_37 : decode cX3_turnBesideB1 37 = .ok (.getfield 68, 3) := by decide +kernel
theorem dX3_turnBesideB1_40 : decode cX3_turnBesideB1 40 = .ok (.iload_n 2, 1) := by decide +kernel
theorem dX3_turnBesideB1_41 : decode cX3_turnBesideB1 41 = .ok (.invokevirtual 173, 3) := by decide +kernel
theorem dX3_turnBesideB1_44 : decode cX3_turnBesideB1 44 = .ok (.iconst 1, 1) := by decide +kernel
theorem dX3_turnBesideB1_45 : decode cX3_turnBesideB1 45 = .ok (.ireturn, 1) := by decide +kernel
abbrev po_c_X3_turnBesideB1 (g : GG) (h0 : Nat) (w : Int) (r : Nat) (md : Nat) (dm : Nat) (t1 : Nat) (t2 : Nat) (t3 : Nat) (td : Nat) (src : Nat) (rs : Nat) (it : Nat) (m : Nat) (c : Int) (F : Nat → Int) (fs : Nat → Int32) (fi : Nat → Int32) (tb : Int) (tn : Int) (ta : Int) (tk : Int) (e : Int) (x : Int) : Option Value → va_W → Nat → Nat → Prop := fun v8 w8 kc8 ks8 => ∃ i2 : Nat, ∃ m2 : Nat, ∃ s2 : Nat → Int32, ∃ g2 : Nat → Int32, ∃ e2 : Int, ∃ u1 : Int, ∃ u2 : Int, ∃ u3 : Int, ∃ q : Int, v8 = some (.int (iI q)) ∧ w8 = [(h0, ob 3 [.int (iI w), .ref r, .ref md, .ref dm, .ref t1, .ref t2, .ref t3, .ref td, .ref src]), (td, ob 5 [.ref r, .int (iI w), .int (iI tb), .int (iI u1), .int (iI u2), .int (iI u3)]), (r, ob 2 [.ref rs, .ref i2, .int (iI c)]), (rs, aI g 27 s2), (i2, aI g m2 g2)] ∧ (LB c (fU F (c.toNat + 1) e2) s2 m2) ∧ (RI w c F g2) ∧ (F c.toNat ≤ e2) ∧ (inc g2 (F c.toNat) e2 w) ∧ (ks8 + 2 * m ≤ 2 * m2 ∧ 64 * kc8 ≤ ks8 ∧ m ≤ m2 ∧ m2 ≤ 160000) ∧ (∀ j : Nat, (j : Int) < F c.toNat → g2 j = fi j) ∧ (TI F g2 tb u1 u2) ∧ (0 ≤ u1 ∧ u1 ≤ 3000 ∧ 0 ≤ u3 ∧ u3 ≤ 1 ∧ -1 ≤ u2 ∧ u2 ≤ w) ∧ (inc g2 (F c.toNat) e2 (u2 + 1)) ∧ (0 ≤ q ∧ q ≤ 1)
set_option maxHeartbeats 4000000 in
set_option maxRecDepth 100000 in
theorem c_X3_turnBesideB1 (l : Launch) (g : GG) (h0 : Nat) (w : Int) (r : Nat) (md : Nat) (dm : Nat) (t1 : Nat) (t2 : Nat) (t3 : Nat) (td : Nat) (src : Nat) (rs : Nat) (it : Nat) (m : Nat) (c : Int) (F : Nat → Int) (fs : Nat → Int32) (fi : Nat → Int32) (tb : Int) (tn : Int) (ta : Int) (tk : Int) (e : Int) (x : Int) (hp0 : LB c (fU F (c.toNat + 1) e) fs m) (hp1 : RI w c F fi) (hp2 : F c.toNat ≤ e) (hp3 : inc fi (F c.toNat) e w) (hp4 : c ≤ 24 ∧ m ≤ 160000) (hp5 : 1 ≤ w ∧ w ≤ 3000) (hp6 : tb = c - 1) (hp7 : TI F fi tb tn ta) (hp8 : 0 ≤ tn ∧ tn ≤ 3000 ∧ 0 ≤ tk ∧ tk ≤ 1 ∧ -1 ≤ ta ∧ ta ≤ w) (hp9 : inc fi (F c.toNat) e (ta + 1)) (hp10 : -10 ≤ x ∧ x ≤ 200) : CtE l g yX3_turnBesideB1 (wM yX3_turnBesideB1 cX3_turnBesideB1 3 (some .boolean)) (rmD 4 5010 330000) [.ref h0, .int (iI x)] [(h0, ob 3 [.int (iI w), .ref r, .ref md, .ref dm, .ref t1, .ref t2, .ref t3, .ref td, .ref src]), (td, ob 5 [.ref r, .int (iI w), .int (iI tb), .int (iI tn), .int (iI ta), .int (iI tk)]), (r, ob 2 [.ref rs, .ref it, .int (iI c)]), (rs, aI g 27 fs), (it, aI g m fi)] (po_c_X3_turnBesideB1 g h0 w r md dm t1 t2 t3 td src rs it m c F fs fi tb tn ta tk e x) := by
  refine CtE_of (by decide +kernel) (Nat.le_of_ble_eq_true rfl) ?_
  intro p9 e9 s9 m9 ag9 bl9 mt9 c9 A9 fx hr hnm
  have hF := LB_F hp0
  have hRF := RI_F (e := e) hF.1 hp1
  have hTF := TI_F (e := e) (c := c) hF.1 (by omega) hp7
  refine v_aload_n fx 0 dX3_turnBesideB1_0 rfl rfl ?_
  refine v_get fx 0 7 inX3 k255 dX3_turnBesideB1_1 rfl rfl (by decide) rfl rfl rfl ?_
  refine v_callV (As := []) (rest := []) fx [1, 2, 3, 4] [0] [(td, ob 5 [.ref r, .int (iI w), .int (iI tb), .int (iI tn), .int (iI ta), .int (iI tk)]), (r, ob 2 [.ref rs, .ref it, .int (iI c)]), (rs, aI g 27 fs), (it, aI g m fi)] [(h0, ob 3 [.int (iI w), .ref r, .ref md, .ref dm, .ref t1, .ref t2, .ref t3, .ref td, .ref src])] 0 0 (c_X5_b1 l g td r w tb tn ta tk rs it m c (fU F (c.toNat + 1) e) fs fi (by exact hp0) (by exact hRF) (by first | omega | decide | assumption) (by first | omega | decide | assumption) (by exact hTF) (by first | omega | decide | assumption) (by first | omega | decide | assumption) (by first | omega | decide | assumption)) dX3_turnBesideB1_4 k868 k690 k691 k52 k692 ykX5_b1 rfl rfl rfl rfl rfl rfl rfl rfl (nl rfl) ⟨nl rfl, nl rfl⟩ ⟨(nl rfl), (nl rfl)⟩ rfl (fun v9 w9 hu => ?_)
  obtain ⟨b1v, rfl, rfl, u_1, u_2, u_3⟩ := hu
  refine v_is (wn := [(h0, ob 3 [.int (iI w), .ref r, .ref md, .ref dm, .ref t1, .ref t2, .ref t3, .ref td, .ref src]), (td, ob 5 [.ref r, .int (iI w), .int (iI tb), .int (iI tn), .int (iI ta), .int (iI tk)]), (r, ob 2 [.ref rs, .ref it, .int (iI c)]), (rs, aI g 27 fs), (it, aI g m fi)]) (cn := 0) (sn := 0) (sn2 := [.int (iI b1v)]) rfl rfl rfl rfl ?_
  refine v_iload_n fx 1 dX3_turnBesideB1_7 rfl rfl ?_
  refine v_iadd fx (b1v + x) dX3_turnBesideB1_8 (by rfl) rfl ?_
  refine v_istore_n fx [(2, .int (iI (b1v + x))), (0, .ref h0), (1, .int (iI x))] dX3_turnBesideB1_9 (by decide) rfl rfl ?_
  refine v_iload_n fx 0 dX3_turnBesideB1_10 rfl rfl ?_
  refine v_aload_n fx 1 dX3_turnBesideB1_11 rfl rfl ?_
  refine v_get fx 0 0 inX3 k248 dX3_turnBesideB1_12 rfl rfl (by decide) rfl rfl rfl ?_
  refine v_icmp_gt fx 29 dX3_turnBesideB1_15 (by decide) rfl (by omega) (by omega) (fun h_4 => ?_) (fun h_4 => ?_)
  ·
    refine v_iconst fx dX3_turnBesideB1_29 rfl ?_
    exact v_zretE fx [(h0, ob 3 [.int (iI w), .ref r, .ref md, .ref dm, .ref t1, .ref t2, .ref t3, .ref td, .ref src]), (td, ob 5 [.ref r, .int (iI w), .int (iI tb), .int (iI tn), .int (iI ta), .int (iI tk)]), (r, ob 2 [.ref rs, .ref it, .int (iI c)]), (rs, aI g 27 fs), (it, aI g m fi)] [0, 1, 2, 3, 4] hr dX3_turnBesideB1_30 (by first | rfl | exact nar_z _ (by omega)) rfl rfl ⟨it, m, fs, fi, e, tn, ta, tk, 0, rfl, rfl, (by exact hp0), (by exact hp1), (by first | omega | rfl | assumption), (by exact hp3), (by first | omega | rfl | assumption), (by exact fun _ _ => rfl), (by exact hp7), (by first | omega | rfl | assumption), (by exact hp9), (by first | omega | rfl | assumption)⟩
  ·
    refine v_iload_n fx 0 dX3_turnBesideB1_18 rfl rfl ?_
    refine v_aload_n fx 1 dX3_turnBesideB1_19 rfl rfl ?_
    refine v_get fx 0 7 inX3 k255 dX3_turnBesideB1_20 rfl rfl (by decide) rfl rfl rfl ?_
    refine v_callV (As := []) (rest := [.int (iI (b1v + x))]) fx [1] [0, 2, 3, 4] [(td, ob 5 [.ref r, .int (iI w), .int (iI tb), .int (iI tn), .int (iI ta), .int (iI tk)])] [(h0, ob 3 [.int (iI w), .ref r, .ref md, .ref dm, .ref t1, .ref t2, .ref t3, .ref td, .ref src]), (r, ob 2 [.ref rs, .ref it, .int (iI c)]), (rs, aI g 27 fs), (it, aI g m fi)] 0 0 (c_X5_a0 l g td r w tb tn ta tk ) dX3_turnBesideB1_23 k869 k870 k871 k52 k872 ykX5_a0 rfl rfl rfl rfl rfl rfl rfl rfl (nl rfl) ⟨nl rfl, nl rfl⟩ ⟨(nl rfl), (nl rfl)⟩ rfl (fun v9 w9 hu => ?_)
    obtain ⟨rfl, rfl⟩ := hu
    refine v_is (wn := [(h0, ob 3 [.int (iI w), .ref r, .ref md, .ref dm, .ref t1, .ref t2, .ref t3, .ref td, .ref src]), (r, ob 2 [.ref rs, .ref it, .int (iI c)]), (rs, aI g 27 fs), (it, aI g m fi), (td, ob 5 [.ref r, .int (iI w), .int (iI tb), .int (iI tn), .int (iI ta), .int (iI tk)])]) (cn := 0) (sn := 0) (sn2 := [.int (iI ta), .int (iI (b1v + x))]) rfl rfl rfl rfl ?_
    refine v_icmp_gt fx 31 dX3_turnBesideB1_26 (by decide) rfl (by omega) (by omega) (fun h_5 => ?_) (fun h_5 => ?_)
    ·
      refine v_aload_n fx 1 dX3_turnBesideB1_31 rfl rfl ?_
      refine v_iload_n fx 0 dX3_turnBesideB1_32 rfl rfl ?_
      refine v_callVE (As := [.int (iI (b1v + x))]) (rest := []) fx [0, 1, 2, 3] [4] [(h0, ob 3 [.int (iI w), .ref r, .ref md, .ref dm, .ref t1, .ref t2, .ref t3, .ref td, .ref src]), (r, ob 2 [.ref rs, .ref it, .int (iI c)]), (rs, aI g 27 fs), (it, aI g m fi)] [(td, ob 5 [.ref r, .int (iI w), .int (iI tb), .int (iI tn), .int (iI ta), .int (iI tk)])] 1 0 (c_X3_turnAt l g h0 w r md dm t1 t2 t3 td src rs it m c F fs fi e (b1v + x) (by exact hp0) (by exact hp1) (by first | omega | decide | assumption) (by exact hp3) (by first | omega | decide | assumption) (by first | omega | decide | assumption) (by exact inc_mono hp9 (by omega)) (by first | omega | decide | assumption)) dX3_turnBesideB1_33 k848 k850 k16 k53 k851 ykX3_turnAt rfl rfl rfl rfl rfl rfl rfl rfl (nl rfl) ⟨nl rfl, nl rfl⟩ ⟨(nl rfl), (nl rfl)⟩ rfl (fun v9 w9 kc_6 ks_7 hu => ?_)
      obtain ⟨i2_8, mz, sz, gz, ez, rfl, rfl, u_9, u_10, u_11, u_12, u_13, u_14, u_15⟩ := hu
      refine v_is (wn := [(td, ob 5 [.ref r, .int (iI w), .int (iI tb), .int (iI tn), .int (iI ta), .int (iI tk)]), (h0, ob 3 [.int (iI w), .ref r, .ref md, .ref dm, .ref t1, .ref t2, .ref t3, .ref td, .ref src]), (r, ob 2 [.ref rs, .ref i2_8, .int (iI c)]), (rs, aI g 27 sz), (i2_8, aI g mz gz)]) (cn := kc_6) (sn := ks_7) (sn2 := []) rfl (Nat.zero_add _) (Nat.zero_add _) rfl ?_
      have hLz := u_9
      have hRz := u_10
      have hiz := u_12
      have hkz := u_14
      have hxz := u_15
      have hRzF := RI_F (e := ez) hF.1 hRz
      refine v_aload_n fx 1 dX3_turnBesideB1_36 rfl rfl ?_
      refine v_get fx 1 7 inX3 k255 dX3_turnBesideB1_37 rfl rfl (by decide) rfl rfl rfl ?_
      refine v_iload_n fx 0 dX3_turnBesideB1_40 rfl rfl ?_
      refine v_callV (As := [.int (iI (b1v + x))]) (rest := []) fx [0, 2, 3, 4] [1] [(td, ob 5 [.ref r, .int (iI w), .int (iI tb), .int (iI tn), .int (iI ta), .int (iI tk)]), (r, ob 2 [.ref rs, .ref i2_8, .int (iI c)]), (rs, aI g 27 sz), (i2_8, aI g mz gz)] [(h0, ob 3 [.int (iI w), .ref r, .ref md, .ref dm, .ref t1, .ref t2, .ref t3, .ref td, .ref src])] 1 0 (c_X5_turnAt l g td r w tb tn ta tk rs i2_8 mz c (fU F (c.toNat + 1) ez) sz gz (b1v + x) (by exact hLz) (by exact hRzF) (by first | omega | decide | assumption) (by first | omega | decide | assumption) (by first | omega | decide | assumption) (by first | omega | decide | assumption) (by first | omega | decide | assumption)) dX3_turnBesideB1_41 k873 k723 k724 k52 k725 ykX5_turnAt rfl rfl rfl rfl rfl rfl rfl rfl (nl rfl) ⟨nl rfl, nl rfl⟩ ⟨(by show kc_6 + 0 ≤ 5010; omega), (by show ks_7 + 0 ≤ 330000; omega)⟩ rfl (fun v9 w9 hu => ?_)
      obtain ⟨x2_16, k2_17, rfl, rfl, u_18, u_19, u_20⟩ := hu
      refine v_is (wn := [(h0, ob 3 [.int (iI w), .ref r, .ref md, .ref dm, .ref t1, .ref t2, .ref t3, .ref td, .ref src]), (td, ob 5 [.ref r, .int (iI w), .int (iI tb), .int (iI x2_16), .int (iI (b1v + x)), .int (iI k2_17)]), (r, ob 2 [.ref rs, .ref i2_8, .int (iI c)]), (rs, aI g 27 sz), (i2_8, aI g mz gz)]) (cn := kc_6) (sn := ks_7) (sn2 := []) rfl rfl rfl rfl ?_
      have hTz := TI_F2 hF.1 (by omega) u_19
      refine v_iconst fx dX3_turnBesideB1_44 rfl ?_
      exact v_zretE fx [(h0, ob 3 [.int (iI w), .ref r, .ref md, .ref dm, .ref t1, .ref t2, .ref t3, .ref td, .ref src]), (td, ob 5 [.ref r, .int (iI w), .int (iI tb), .int (iI x2_16), .int (iI (b1v + x)), .int (iI k2_17)]), (r, ob 2 [.ref rs, .ref i2_8, .int (iI c)]), (rs, aI g 27 sz), (i2_8, aI g mz gz)] [0, 1, 2, 3, 4] hr dX3_turnBesideB1_45 (by first | rfl | exact nar_z _ (by omega)) rfl rfl ⟨i2_8, mz, sz, gz, ez, x2_16, (b1v + x), k2_17, 1, rfl, rfl, (by exact hLz), (by exact hRz), (by first | omega | rfl | assumption), (by exact hiz), (by first | omega | rfl | assumption), (by exact hkz), (by exact hTz), (by first | omega | rfl | assumption), (by exact hxz), (by first | omega | rfl | assumption)⟩
    ·
      refine v_iconst fx dX3_turnBesideB1_29 rfl ?_
      exact v_zretE fx [(h0, ob 3 [.int (iI w), .ref r, .ref md, .ref dm, .ref t1, .ref t2, .ref t3, .ref td, .ref src]), (td, ob 5 [.ref r, .int (iI w), .int (iI tb), .int (iI tn), .int (iI ta), .int (iI tk)]), (r, ob 2 [.ref rs, .ref it, .int (iI c)]), (rs, aI g 27 fs), (it, aI g m fi)] [0, 4, 1, 2, 3] hr dX3_turnBesideB1_30 (by first | rfl | exact nar_z _ (by omega)) rfl rfl ⟨it, m, fs, fi, e, tn, ta, tk, 0, rfl, rfl, (by exact hp0), (by exact hp1), (by first | omega | rfl | assumption), (by exact hp3), (by first | omega | rfl | assumption), (by exact fun _ _ => rfl), (by exact hp7), (by first | omega | rfl | assumption), (by exact hp9), (by first | omega | rfl | assumption)⟩
theorem dX3_readHorizontal_0 : decode cX3_readHorizontal 0 = .ok (.aload_n 0, 1) := by decide +kernel
theorem dX3_readHorizontal_1 : decode cX3_readHorizontal 1 = .ok (.getfield 68, 3) := by decide +kernel
theorem dX3_readHorizontal_4 : decode cX3_readHorizontal 4 = .ok (.invokevirtual 174, 3) := by decide +kernel
theorem dX3_readHorizontal_7 : decode cX3_readHorizontal 7 = .ok (.istore_n 1, 1) := by decide +kernel
theorem dX3_readHorizontal_8 : decode cX3_readHorizontal 8 = .ok (.iconst 0, 1) := by decide +kernel
theorem dX3_readHorizontal_9 : decode cX3_readHorizontal 9 = .ok (.istore_n 2, 1) := by decide +kernel
theorem dX3_readHorizontal_10 : decode cX3_readHorizontal 10 = .ok (.iload_n 2, 1) := by decide +kernel
theorem dX3_readHorizontal_11 : decode cX3_readHorizontal 11 = .ok (.iconst 2, 1) := by decide +kernel
theorem dX3_readHorizontal_12 : decode cX3_readHorizontal 12 = .ok (.if_icmp .ge 64, 3) := by decide +kernel
theorem dX3_readHorizontal_15 : decode cX3_readHorizontal 15 = .ok (.aload_n 0, 1) := by decide +kernel
theorem dX3_readHorizontal_16 : decode cX3_readHorizontal 16 = .ok (.aload_n 0, 1) := by decide +kernel
theorem dX3_readHorizontal_17 : decode cX3_readHorizontal 17 = .ok (.getfield 68, 3) := by decide +kernel
theorem dX3_readHorizontal_20 : decode cX3_readHorizontal 20 = .ok (.invokevirtual 177, 3) := by decide +kernel
theorem dX3_readHorizontal_23 : decode cX3_readHorizontal 23 = .ok (.iload_n 2, 1) := by decide +kernel
theorem dX3_readHorizontal_24 : decode cX3_readHorizontal 24 = .ok (.ifCond .ne 7, 3) := by decide +kernel
theorem dX3_readHorizontal_27 : decode cX3_readHorizontal 27 = .ok (.iconst 1, 1) := by decide +kernel
theorem dX3_readHorizontal_28 : decode cX3_readHorizontal 28 = .ok (.goto 4, 3) := by decide +kernel
theorem dX3_readHorizontal_31 : decode cX3_readHorizontal 31 = .ok (.iconst 0, 1) := by decide +kernel
theorem dX3_readHorizontal_32 : decode cX3_readHorizontal 32 = .ok (.if_icmp .ne 7, 3) := by decide +kernel
theorem dX3_readHorizontal_35 : decode cX3_readHorizontal 35 = .ok (.iconst 1, 1) := by decide +kernel
theorem dX3_readHorizontal_36 : decode cX3_readHorizontal 36 = .ok (.goto 4, 3) := by decide +kernel
theorem dX3_readHorizontal_39 : decode cX3_readHorizontal 39 = .ok (.iconst 0, 1) := by decide +kernel
theorem dX3_readHorizontal_40 : decode cX3_readHorizontal 40 = .ok (.invokevirtual 135, 3) := by decide +kernel
theorem dX3_readHorizontal_43 : decode cX3_readHorizontal 43 = .ok (.istore_n 3, 1) := by decide +kernel
theorem dX3_readHorizontal_44 : decode cX3_readHorizontal 44 = .ok (.iload_n 3, 1) := by decide +kernel
theorem dX3_readHorizontal_45 : decode cX3_readHorizontal 45 = .ok (.iconst (-1), 1) := by decide +kernel
theorem dX3_readHorizontal_46 : decode cX3_readHorizontal 46 = .ok (.if_icmp .eq 13, 3) := by decide +kernel
theorem dX3_readHorizontal_49 : decode cX3_readHorizontal 49 = .ok (.iload_n 3, 1) := by decide +kernel
theorem dX3_readHorizontal_50 : decode cX3_readHorizontal 50 = .ok (.aload_n 0, 1) := by decide +kernel
theorem dX3_readHorizontal_51 : decode cX3_readHorizontal 51 = .ok (.getfield 38, 3) := by decide +kernel
theorem dX3_readHorizontal_54 : decode cX3_readHorizontal 54 = .ok (.iload_n 1, 1) := by decide +kernel
theorem dX3_readHorizontal_55 : decode cX3_readHorizontal 55 = .ok (.isub, 1) := by decide +kernel
theorem dX3_readHorizontal_56 : decode cX3_readHorizontal 56 = .ok (.if_icmp .le 5, 3) := by decide +kernel
theorem dX3_readHorizontal_59 : decode cX3_readHorizontal 59 = .ok (.iconst 0, 1) := by decide +kernel
theorem dX3_readHorizontal_60 : decode cX3_readHorizontal 60 = .ok (.ireturn, 1) := by decide +kernel
theorem dX3_readHorizontal_61 : decode cX3_readHorizontal 61 = .ok (.iload_n 1, 1) := by decide +kernel
theorem dX3_readHorizontal_62 : decode cX3_readHorizontal 62 = .ok (.iload_n 3, 1) := by decide +kernel
theorem dX3_readHorizontal_63 : decode cX3_readHorizontal 63 = .ok (.iadd, 1) := by decide +kernel
theorem dX3_readHorizontal_64 : decode cX3_readHorizontal 64 = .ok (.istore_n 1, 1) := by decide +kernel
theorem dX3_readHorizontal_65 : decode cX3_readHorizontal 65 = .ok (.aload_n 0, 1) := by decide +kernel
theorem dX3_readHorizontal_66 : decode cX3_readHorizontal 66 = .ok (.iload_n 1, 1) := by decide +kernel
theorem dX3_readHorizontal_67 : decode cX3_readHorizontal 67 = .ok (.invokevirtual 139, 3) := by decide +kernel
theorem dX3_readHorizontal_70 : decode cX3_readHorizontal 70 = .ok (.iinc 2 1, 3) := by decide +kernel
theorem dX3_readHorizontal_73 : decode cX3_readHorizontal 73 = .ok (.goto (-63), 3) := by decide +kernel
theorem dX3_readHorizontal_76 : decode cX3_readHorizontal 76 = .ok (.aload_n 0, 1) := by decide +kernel
theorem dX3_readHorizontal_77 : decode cX3_readHorizontal 77 = .ok (.getfield 68, 3) := by decide +kernel
theorem dX3_readHorizontal_80 : decode cX3_readHorizontal 80 = .ok (.iload_n 1, 1) := by decide +kernel
theorem dX3_readHorizontal_81 : decode cX3_readHorizontal 81 = .ok (.invokevirtual 161, 3) := by decide +kernel
theorem dX3_readHorizontal_84 : decode cX3_readHorizontal 84 = .ok (.iconst 1, 1) := by decide +kernel
theorem dX3_readHorizontal_85 : decode cX3_readHorizontal 85 = .ok (.ireturn, 1) := by decide +kernel
abbrev po_c_X3_readHorizontal (g : GG) (h0 : Nat) (w : Int) (r : Nat) (md : Nat) (dm : Nat) (t1 : Nat) (t2 : Nat) (t3 : Nat) (td : Nat) (b1 : Nat) (n1 : Nat) (b2 : Nat) (n2 : Nat) (f1 : Nat → Int32) (f2 : Nat → Int32) (d1 : Int32) (d2 : Int32) (src : Nat) (ba : Nat) (n : Nat) (f : Nat → Int32) (cb : Int) (pl : Int) (tu : Int) (rs : Nat) (it : Nat) (m : Nat) (c : Int) (F : Nat → Int) (fs : Nat → Int32) (fi : Nat → Int32) (tb : Int) (tn : Int) (ta : Int) (tk : Int) (e : Int) : Option Value → va_W → Nat → Nat → Prop := fun v8 w8 kc8 ks8 => ∃ i2 : Nat, ∃ m2 : Nat, ∃ s2 : Nat → Int32, ∃ g2 : Nat → Int32, ∃ e2 : Int, ∃ u1 : Int, ∃ u2 : Int, ∃ u3 : Int, ∃ q : Int, ∃ p2_ : Int, v8 = some (.int (iI q)) ∧ w8 = [(h0, ob 3 [.int (iI w), .ref r, .ref md, .ref dm, .ref t1, .ref t2, .ref t3, .ref td, .ref src]), (t1, ob 1 [.ref b1, .int d1]), (b1, aI g n1 f1), (t2, ob 1 [.ref b2, .int d2]), (b2, aI g n2 f2), (src, ob 0 [.ref ba, .int (iI cb), .int (iI p2_), .int (iI tu)]), (ba, aB g n f), (r, ob 2 [.ref rs, .ref i2, .int (iI c)]), (rs, aI g 27 s2), (i2, aI g m2 g2), (td, ob 5 [.ref r, .int (iI w), .int (iI tb), .int (iI u1), .int (iI u2), .int (iI u3)])] ∧ (LB c (fU F (c.toNat + 1) e2) s2 m2) ∧ (RI w c F g2) ∧ (F c.toNat ≤ e2) ∧ (inc g2 (F c.toNat) e2 w) ∧ (ks8 + 2 * m ≤ 2 * m2 ∧ 64 * kc8 ≤ ks8 ∧ m ≤ m2 ∧ m2 ≤ 160000) ∧ (∀ j : Nat, (j : Int) < F c.toNat → g2 j = fi j) ∧ (TI F g2 tb u1 u2) ∧ (0 ≤ u1 ∧ u1 ≤ 3000 ∧ 0 ≤ u3 ∧ u3 ≤ 1 ∧ -1 ≤ u2 ∧ u2 ≤ w) ∧ (q = 0 ∨ inc g2 (F c.toNat) e2 (u2 + 1)) ∧ (0 ≤ q ∧ q ≤ 1) ∧ (pl ≤ p2_ ∧ p2_ ≤ cb)
set_option maxHeartbeats 4000000 in
set_option maxRecDepth 100000 in
theorem c_X3_readHorizontal (l : Launch) (g : GG) (h0 : Nat) (w : Int) (r : Nat) (md : Nat) (dm : Nat) (t1 : Nat) (t2 : Nat) (t3 : Nat) (td : Nat) (b1 : Nat) (n1 : Nat) (b2 : Nat) (n2 : Nat) (f1 : Nat → Int32) (f2 : Nat → Int32) (d1 : Int32) (d2 : Int32) (src : Nat) (ba : Nat) (n : Nat) (f : Nat → Int32) (cb : Int) (pl : Int) (tu : Int) (rs : Nat) (it : Nat) (m : Nat) (c : Int) (F : Nat → Int) (fs : Nat → Int32) (fi : Nat → Int32) (tb : Int) (tn : Int) (ta : Int) (tk : Int) (e : Int) (hp0 : 0 ≤ cb ∧ cb ≤ 8 * (n : Int) ∧ 64 ≤ n ∧ n ≤ 130000 ∧ cb ≤ 508000) (hp1 : bF f) (hp2 : 0 ≤ pl ∧ pl ≤ cb) (hp3 : n1 < 100000 ∧ n2 < 100000) (hp4 : lo f1) (hp5 : lo f2) (hp6 : LB c (fU F (c.toNat + 1) e) fs m) (hp7 : RI w c F fi) (hp8 : F c.toNat ≤ e) (hp9 : inc fi (F c.toNat) e w) (hp10 : c ≤ 24 ∧ m ≤ 160000) (hp11 : 1 ≤ w ∧ w ≤ 3000) (hp12 : tb = c - 1) (hp13 : TI F fi tb tn ta) (hp14 : 0 ≤ tn ∧ tn ≤ 3000 ∧ 0 ≤ tk ∧ tk ≤ 1 ∧ -1 ≤ ta ∧ ta ≤ w) (hp15 : inc fi (F c.toNat) e (ta + 1)) : CtE l g yX3_readHorizontal (wM yX3_readHorizontal cX3_readHorizontal 4 (some .boolean)) (rmD 4 5010 660000) [.ref h0] [(h0, ob 3 [.int (iI w), .ref r, .ref md, .ref dm, .ref t1, .ref t2, .ref t3, .ref td, .ref src]), (t1, ob 1 [.ref b1, .int d1]), (b1, aI g n1 f1), (t2, ob 1 [.ref b2, .int d2]), (b2, aI g n2 f2), (src, ob 0 [.ref ba, .int (iI cb), .int (iI pl), .int (iI tu)]), (ba, aB g n f), (r, ob 2 [.ref rs, .ref it, .int (iI c)]), (rs, aI g 27 fs), (it, aI g m fi), (td, ob 5 [.ref r, .int (iI w), .int (iI tb), .int (iI tn), .int (iI ta), .int (iI tk)])] (po_c_X3_readHorizontal g h0 w r md dm t1 t2 t3 td b1 n1 b2 n2 f1 f2 d1 d2 src ba n f cb pl tu rs it m c F fs fi tb tn ta tk e) := by
  refine CtE_of (by decide +kernel) (Nat.le_of_ble_eq_true rfl) ?_
  intro p9 e9 s9 m9 ag9 bl9 mt9 c9 A9 fx hr hnm
  have hF := LB_F hp6
  refine v_aload_n fx 0 dX3_readHorizontal_0 rfl rfl ?_
  refine v_get fx 0 7 inX3 k255 dX3_readHorizontal_1 rfl rfl (by decide) rfl rfl rfl ?_
  refine v_callV (As := []) (rest := []) fx [10] [0, 1, 2, 3, 4, 5, 6, 7, 8, 9] [(td, ob 5 [.ref r, .int (iI w), .int (iI tb), .int (iI tn), .int (iI ta), .int (iI tk)])] [(h0, ob 3 [.int (iI w), .ref r, .ref md, .ref dm, .ref t1, .ref t2, .ref t3, .ref td, .ref src]), (t1, ob 1 [.ref b1, .int d1]), (b1, aI g n1 f1), (t2, ob 1 [.ref b2, .int d2]), (b2, aI g n2 f2), (src, ob 0 [.ref ba, .int (iI cb), .int (iI pl), .int (iI tu)]), (ba, aB g n f), (r, ob 2 [.ref rs, .ref it, .int (iI c)]), (rs, aI g 27 fs), (it, aI g m fi)] 0 0 (c_X5_runStart l g td r w tb tn ta tk (by first | omega | decide | assumption)) dX3_readHorizontal_4 k842 k728 k729 k52 k730 ykX5_runStart rfl rfl rfl rfl rfl rfl rfl rfl (nl rfl) ⟨nl rfl, nl rfl⟩ ⟨(nl rfl), (nl rfl)⟩ rfl (fun v9 w9 hu => ?_)
  obtain ⟨q_1, rfl, rfl, u_2⟩ := hu
  refine v_is (wn := [(h0, ob 3 [.int (iI w), .ref r, .ref md, .ref dm, .ref t1, .ref t2, .ref t3, .ref td, .ref src]), (t1, ob 1 [.ref b1, .int d1]), (b1, aI g n1 f1), (t2, ob 1 [.ref b2, .int d2]), (b2, aI g n2 f2), (src, ob 0 [.ref ba, .int (iI cb), .int (iI pl), .int (iI tu)]), (ba, aB g n f), (r, ob 2 [.ref rs, .ref it, .int (iI c)]), (rs, aI g 27 fs), (it, aI g m fi), (td, ob 5 [.ref r, .int (iI w), .int (iI tb), .int (iI tn), .int (iI ta), .int (iI tk)])]) (cn := 0) (sn := 0) (sn2 := [.int (iI q_1)]) rfl rfl rfl rfl ?_
  refine v_istore_n fx [(1, .int (iI q_1)), (0, .ref h0)] dX3_readHorizontal_7 (by decide) rfl rfl ?_
  refine v_iconst fx dX3_readHorizontal_8 rfl ?_
  refine v_istore_n fx [(2, .int (iI 0)), (1, .int (iI q_1)), (0, .ref h0)] dX3_readHorizontal_9 (by decide) rfl rfl ?_
  refine v_iload_n fx 0 dX3_readHorizontal_10 rfl rfl ?_
  refine v_iconst fx dX3_readHorizontal_11 rfl ?_
  refine v_icmp_ge fx 76 dX3_readHorizontal_12 (by decide) rfl (by omega) (by omega) (fun h0 => absurd h0 (by omega)) (fun h_3 => ?_)
  refine v_aload_n fx 2 dX3_readHorizontal_15 rfl rfl ?_
  refine v_aload_n fx 2 dX3_readHorizontal_16 rfl rfl ?_
  refine v_get fx 0 7 inX3 k255 dX3_readHorizontal_17 rfl rfl (by decide) rfl rfl rfl ?_
  refine v_callV (As := []) (rest := [.ref h0]) fx [10] [0, 1, 2, 3, 4, 5, 6, 7, 8, 9] [(td, ob 5 [.ref r, .int (iI w), .int (iI tb), .int (iI tn), .int (iI ta), .int (iI tk)])] [(h0, ob 3 [.int (iI w), .ref r, .ref md, .ref dm, .ref t1, .ref t2, .ref t3, .ref td, .ref src]), (t1, ob 1 [.ref b1, .int d1]), (b1, aI g n1 f1), (t2, ob 1 [.ref b2, .int d2]), (b2, aI g n2 f2), (src, ob 0 [.ref ba, .int (iI cb), .int (iI pl), .int (iI tu)]), (ba, aB g n f), (r, ob 2 [.ref rs, .ref it, .int (iI c)]), (rs, aI g 27 fs), (it, aI g m fi)] 0 0 (c_X5_isBlack l g td r w tb tn ta tk (by first | omega | decide | assumption)) dX3_readHorizontal_20 k843 k733 k734 k52 k735 ykX5_isBlack rfl rfl rfl rfl rfl rfl rfl rfl (nl rfl) ⟨nl rfl, nl rfl⟩ ⟨(nl rfl), (nl rfl)⟩ rfl (fun v9 w9 hu => ?_)
  obtain ⟨rfl, rfl⟩ := hu
  refine v_is (wn := [(h0, ob 3 [.int (iI w), .ref r, .ref md, .ref dm, .ref t1, .ref t2, .ref t3, .ref td, .ref src]), (t1, ob 1 [.ref b1, .int d1]), (b1, aI g n1 f1), (t2, ob 1 [.ref b2, .int d2]), (b2, aI g n2 f2), (src, ob 0 [.ref ba, .int (iI cb), .int (iI pl), .int (iI tu)]), (ba, aB g n f), (r, ob 2 [.ref rs, .ref it, .int (iI c)]), (rs, aI g 27 fs), (it, aI g m fi), (td, ob 5 [.ref r, .int (iI w), .int (iI tb), .int (iI tn), .int (iI ta), .int (iI tk)])]) (cn := 0) (sn := 0) (sn2 := [.int (iI tk), .ref h0]) rfl rfl rfl rfl ?_
  refine v_iload_n fx 0 dX3_readHorizontal_23 rfl rfl ?_
  refine v_if_ne fx 31 dX3_readHorizontal_24 (by decide) rfl (by omega) (fun h0 => absurd h0 (by omega)) (fun h_4 => ?_)
  refine v_iconst fx dX3_readHorizontal_27 rfl ?_
  refine v_goto fx 32 dX3_readHorizontal_28 (by decide) ?_
  refine v_icmp_ne fx 39 dX3_readHorizontal_32 (by decide) rfl (by omega) (by omega) (fun h_5 => ?_) (fun h_5 => ?_)
  ·
    refine v_iconst fx dX3_readHorizontal_39 rfl ?_
    refine v_callV (As := [.int (iI 0)]) (rest := []) fx [0, 1, 2, 3, 4, 5, 6] [7, 8, 9, 10] [(h0, ob 3 [.int (iI w), .ref r, .ref md, .ref dm, .ref t1, .ref t2, .ref t3, .ref td, .ref src]), (t1, ob 1 [.ref b1, .int d1]), (b1, aI g n1 f1), (t2, ob 1 [.ref b2, .int d2]), (b2, aI g n2 f2), (src, ob 0 [.ref ba, .int (iI cb), .int (iI pl), .int (iI tu)]), (ba, aB g n f)] [(r, ob 2 [.ref rs, .ref it, .int (iI c)]), (rs, aI g 27 fs), (it, aI g m fi), (td, ob 5 [.ref r, .int (iI w), .int (iI tb), .int (iI tn), .int (iI ta), .int (iI tk)])] 1 0 (c_X3_readRun l g h0 w r md dm t1 t2 t3 td b1 n1 b2 n2 f1 f2 d1 d2 src ba n f cb pl tu 0 (by first | omega | decide | assumption) (by exact hp1) (by first | omega | decide | assumption) (by first | omega | decide | assumption) (by exact hp4) (by exact hp5) (by first | omega | decide | assumption)) dX3_readHorizontal_40 k844 k846 k15 k53 k847 ykX3_readRun rfl rfl rfl rfl rfl rfl rfl rfl (nl rfl) ⟨nl rfl, nl rfl⟩ ⟨(nl rfl), (nl rfl)⟩ rfl (fun v9 w9 hu => ?_)
    obtain ⟨q_6, p2__7, rfl, rfl, u_8⟩ := hu
    refine v_is (wn := [(r, ob 2 [.ref rs, .ref it, .int (iI c)]), (rs, aI g 27 fs), (it, aI g m fi), (td, ob 5 [.ref r, .int (iI w), .int (iI tb), .int (iI tn), .int (iI ta), .int (iI tk)]), (h0, ob 3 [.int (iI w), .ref r, .ref md, .ref dm, .ref t1, .ref t2, .ref t3, .ref td, .ref src]), (t1, ob 1 [.ref b1, .int d1]), (b1, aI g n1 f1), (t2, ob 1 [.ref b2, .int d2]), (b2, aI g n2 f2), (src, ob 0 [.ref ba, .int (iI cb), .int (iI p2__7), .int (iI tu)]), (ba, aB g n f)]) (cn := 0) (sn := 0) (sn2 := [.int (iI q_6)]) rfl rfl rfl rfl ?_
    refine v_istore_n fx [(3, .int (iI q_6)), (2, .int (iI 0)), (1, .int (iI q_1)), (0, .ref h0)] dX3_readHorizontal_43 (by decide) rfl rfl ?_
    refine v_iload_n fx 0 dX3_readHorizontal_44 rfl rfl ?_
    refine v_iconst fx dX3_readHorizontal_45 rfl ?_
    refine v_icmp_eq fx 59 dX3_readHorizontal_46 (by decide) rfl (by omega) (by omega) (fun h_9 => ?_) (fun h_9 => ?_)
    ·
      refine v_iconst fx dX3_readHorizontal_59 rfl ?_
      exact v_zretE fx [(h0, ob 3 [.int (iI w), .ref r, .ref md, .ref dm, .ref t1, .ref t2, .ref t3, .ref td, .ref src]), (t1, ob 1 [.ref b1, .int d1]), (b1, aI g n1 f1), (t2, ob 1 [.ref b2, .int d2]), (b2, aI g n2 f2), (src, ob 0 [.ref ba, .int (iI cb), .int (iI p2__7), .int (iI tu)]), (ba, aB g n f), (r, ob 2 [.ref rs, .ref it, .int (iI c)]), (rs, aI g 27 fs), (it, aI g m fi), (td, ob 5 [.ref r, .int (iI w), .int (iI tb), .int (iI tn), .int (iI ta), .int (iI tk)])] [4, 5, 6, 7, 8, 9, 10, 0, 1, 2, 3] hr dX3_readHorizontal_60 (by first | rfl | exact nar_z _ (by omega)) rfl rfl ⟨it, m, fs, fi, e, tn, ta, tk, 0, p2__7, rfl, rfl, (by first | exact hL2 | exact hp6), (by first | exact hR2 | exact hp7), (by first | omega | rfl | assumption), (by first | exact hi2 | exact hp9), (by first | omega | rfl | assumption), (by first | exact hk2 | exact fun _ _ => rfl), (by first | exact TI_keep hp6 (by omega) (by omega) hk2 hp13 | exact hp13), (by first | omega | rfl | assumption), (by exact Or.inl rfl), (by first | omega | rfl | assumption), (by first | omega | rfl | assumption)⟩
    ·
      refine v_iload_n fx 0 dX3_readHorizontal_49 rfl rfl ?_
      refine v_aload_n fx 3 dX3_readHorizontal_50 rfl rfl ?_
      refine v_get fx 4 0 inX3 k248 dX3_readHorizontal_51 rfl rfl (by decide) rfl rfl rfl ?_
      refine v_iload_n fx 2 dX3_readHorizontal_54 rfl rfl ?_
      refine v_isub fx (w - q_1) dX3_readHorizontal_55 (by rfl) rfl ?_
      refine v_icmp_le fx 61 dX3_readHorizontal_56 (by decide) rfl (by omega) (by omega) (fun h_10 => ?_) (fun h_10 => ?_)
      ·
        refine v_iload_n fx 2 dX3_readHorizontal_61 rfl rfl ?_
        refine v_iload_n fx 0 dX3_readHorizontal_62 rfl rfl ?_
        refine v_iadd fx (q_1 + q_6) dX3_readHorizontal_63 (by rfl) rfl ?_
        refine v_istore_n fx [(1, .int (iI (q_1 + q_6))), (3, .int (iI q_6)), (2, .int (iI 0)), (0, .ref h0)] dX3_readHorizontal_64 (by decide) rfl rfl ?_
        refine v_aload_n fx 3 dX3_readHorizontal_65 rfl rfl ?_
        refine v_iload_n fx 0 dX3_readHorizontal_66 rfl rfl ?_
        refine v_callVE (As := [.int (iI (q_1 + q_6))]) (rest := []) fx [4, 0, 1, 2] [3, 5, 6, 7, 8, 9, 10] [(h0, ob 3 [.int (iI w), .ref r, .ref md, .ref dm, .ref t1, .ref t2, .ref t3, .ref td, .ref src]), (r, ob 2 [.ref rs, .ref it, .int (iI c)]), (rs, aI g 27 fs), (it, aI g m fi)] [(td, ob 5 [.ref r, .int (iI w), .int (iI tb), .int (iI tn), .int (iI ta), .int (iI tk)]), (t1, ob 1 [.ref b1, .int d1]), (b1, aI g n1 f1), (t2, ob 1 [.ref b2, .int d2]), (b2, aI g n2 f2), (src, ob 0 [.ref ba, .int (iI cb), .int (iI p2__7), .int (iI tu)]), (ba, aB g n f)] 1 0 (c_X3_turnAt l g h0 w r md dm t1 t2 t3 td src rs it m c F fs fi e (q_1 + q_6) (by first | exact hL2 | exact hp6) (by first | exact hR2 | exact hp7) (by first | omega | decide | assumption) (by first | exact hi2 | exact hp9) (by first | omega | decide | assumption) (by first | omega | decide | assumption) (by first | exact inc_mono hx2 (by omega) | exact inc_mono hp15 (by omega)) (by first | omega | decide | assumption)) dX3_readHorizontal_67 k848 k850 k16 k53 k851 ykX3_turnAt rfl rfl rfl rfl rfl rfl rfl rfl (nl rfl) ⟨nl rfl, nl rfl⟩ ⟨(nl rfl), (nl rfl)⟩ rfl (fun v9 w9 kc_11 ks_12 hu => ?_)
        obtain ⟨i2_13, m2_14, s2_15, g2_16, e2_17, rfl, rfl, u_18, u_19, u_20, u_21, u_22, u_23, u_24⟩ := hu
        refine v_is (wn := [(td, ob 5 [.ref r, .int (iI w), .int (iI tb), .int (iI tn), .int (iI ta), .int (iI tk)]), (t1, ob 1 [.ref b1, .int d1]), (b1, aI g n1 f1), (t2, ob 1 [.ref b2, .int d2]), (b2, aI g n2 f2), (src, ob 0 [.ref ba, .int (iI cb), .int (iI p2__7), .int (iI tu)]), (ba, aB g n f), (h0, ob 3 [.int (iI w), .ref r, .ref md, .ref dm, .ref t1, .ref t2, .ref t3, .ref td, .ref src]), (r, ob 2 [.ref rs, .ref i2_13, .int (iI c)]), (rs, aI g 27 s2_15), (i2_13, aI g m2_14 g2_16)]) (cn := kc_11) (sn := ks_12) (sn2 := []) rfl (Nat.zero_add _) (Nat.zero_add _) rfl ?_
        have hL2 := u_18
        have hR2 := u_19
        have hi2 := u_21
        have hk2 : ∀ j : Nat, (j : Int) < F c.toNat → g2_16 j = fi j := by
          first | exact fun j hj => (u_23 j hj).trans (hk2 j hj) | exact u_23
        have hx2 := u_24
        refine v_iinc fx 2 (1) [(2, .int (iI 1)), (1, .int (iI (q_1 + q_6))), (3, .int (iI q_6)), (0, .ref h0)] dX3_readHorizontal_70 rfl (by omega) (by decide) rfl rfl ?_
        refine v_goto fx 10 dX3_readHorizontal_73 (by decide) ?_
        refine v_iload_n fx 0 dX3_readHorizontal_10 rfl rfl ?_
        refine v_iconst fx dX3_readHorizontal_11 rfl ?_
        refine v_icmp_ge fx 76 dX3_readHorizontal_12 (by decide) rfl (by omega) (by omega) (fun h0 => absurd h0 (by omega)) (fun h_25 => ?_)
        refine v_aload_n fx 3 dX3_readHorizontal_15 rfl rfl ?_
        refine v_aload_n fx 3 dX3_readHorizontal_16 rfl rfl ?_
        refine v_get fx 7 7 inX3 k255 dX3_readHorizontal_17 rfl rfl (by decide) rfl rfl rfl ?_
        refine v_callV (As := []) (rest := [.ref h0]) fx [0] [1, 2, 3, 4, 5, 6, 7, 8, 9, 10] [(td, ob 5 [.ref r, .int (iI w), .int (iI tb), .int (iI tn), .int (iI ta), .int (iI tk)])] [(t1, ob 1 [.ref b1, .int d1]), (b1, aI g n1 f1), (t2, ob 1 [.ref b2, .int d2]), (b2, aI g n2 f2), (src, ob 0 [.ref ba, .int (iI cb), .int (iI p2__7), .int (iI tu)]), (ba, aB g n f), (h0, ob 3 [.int (iI w), .ref r, .ref md, .ref dm, .ref t1, .ref t2, .ref t3, .ref td, .ref src]), (r, ob 2 [.ref rs, .ref i2_13, .int (iI c)]), (rs, aI g 27 s2_15), (i2_13, aI g m2_14 g2_16)] 0 0 (c_X5_isBlack l g td r w tb tn ta tk (by first | omega | decide | assumption)) dX3_readHorizontal_20 k843 k733 k734 k52 k735 ykX5_isBlack rfl rfl rfl rfl rfl rfl rfl rfl (nl rfl) ⟨nl rfl, nl rfl⟩ ⟨(by show kc_11 + 0 ≤ 5010; omega), (by show ks_12 + 0 ≤ 660000; omega)⟩ rfl (fun v9 w9 hu => ?_)
        obtain ⟨rfl, rfl⟩ := hu
        refine v_is (wn := [(t1, ob 1 [.ref b1, .int d1]), (b1, aI g n1 f1), (t2, ob 1 [.ref b2, .int d2]), (b2, aI g n2 f2), (src, ob 0 [.ref ba, .int (iI cb), .int (iI p2__7), .int (iI tu)]), (ba, aB g n f), (h0, ob 3 [.int (iI w), .ref r, .ref md, .ref dm, .ref t1, .ref t2, .ref t3, .ref td, .ref src]), (r, ob 2 [.ref rs, .ref i2_13, .int (iI c)]), (rs, aI g 27 s2_15), (i2_13, aI g m2_14 g2_16), (td, ob 5 [.ref r, .int (iI w), .int (iI tb), .int (iI tn), .int (iI ta), .int (iI tk)])]) (cn := kc_11) (sn := ks_12) (sn2 := [.int (iI tk), .ref h0]) rfl rfl rfl rfl ?_
        refine v_iload_n fx 0 dX3_readHorizontal_23 rfl rfl ?_
        refine v_if_ne fx 31 dX3_readHorizontal_24 (by decide) rfl (by omega) (fun h_26 => ?_) (fun h0 => absurd h0 (by omega))
        refine v_iconst fx dX3_readHorizontal_31 rfl ?_
        refine v_icmp_ne fx 39 dX3_readHorizontal_32 (by decide) rfl (by omega) (by omega) (fun h_27 => ?_) (fun h_27 => ?_)
        ·
          refine v_iconst fx dX3_readHorizontal_39 rfl ?_
          refine v_callV (As := [.int (iI 0)]) (rest := []) fx [6, 0, 1, 2, 3, 4, 5] [7, 8, 9, 10] [(h0, ob 3 [.int (iI w), .ref r, .ref md, .ref dm, .ref t1, .ref t2, .ref t3, .ref td, .ref src]), (t1, ob 1 [.ref b1, .int d1]), (b1, aI g n1 f1), (t2, ob 1 [.ref b2, .int d2]), (b2, aI g n2 f2), (src, ob 0 [.ref ba, .int (iI cb), .int (iI p2__7), .int (iI tu)]), (ba, aB g n f)] [(r, ob 2 [.ref rs, .ref i2_13, .int (iI c)]), (rs, aI g 27 s2_15), (i2_13, aI g m2_14 g2_16), (td, ob 5 [.ref r, .int (iI w), .int (iI tb), .int (iI tn), .int (iI ta), .int (iI tk)])] 1 0 (c_X3_readRun l g h0 w r md dm t1 t2 t3 td b1 n1 b2 n2 f1 f2 d1 d2 src ba n f cb p2__7 tu 0 (by first | omega | decide | assumption) (by exact hp1) (by first | omega | decide | assumption) (by first | omega | decide | assumption) (by exact hp4) (by exact hp5) (by first | omega | decide | assumption)) dX3_readHorizontal_40 k844 k846 k15 k53 k847 ykX3_readRun rfl rfl rfl rfl rfl rfl rfl rfl (nl rfl) ⟨nl rfl, nl rfl⟩ ⟨(by show kc_11 + 0 ≤ 5010; omega), (by show ks_12 + 0 ≤ 660000; omega)⟩ rfl (fun v9 w9 hu => ?_)
          obtain ⟨q_28, p2__29, rfl, rfl, u_30⟩ := hu
          refine v_is (wn := [(r, ob 2 [.ref rs, .ref i2_13, .int (iI c)]), (rs, aI g 27 s2_15), (i2_13, aI g m2_14 g2_16), (td, ob 5 [.ref r, .int (iI w), .int (iI tb), .int (iI tn), .int (iI ta), .int (iI tk)]), (h0, ob 3 [.int (iI w), .ref r, .ref md, .ref dm, .ref t1, .ref t2, .ref t3, .ref td, .ref src]), (t1, ob 1 [.ref b1, .int d1]), (b1, aI g n1 f1), (t2, ob 1 [.ref b2, .int d2]), (b2, aI g n2 f2), (src, ob 0 [.ref ba, .int (iI cb), .int (iI p2__29), .int (iI tu)]), (ba, aB g n f)]) (cn := kc_11) (sn := ks_12) (sn2 := [.int (iI q_28)]) rfl rfl rfl rfl ?_
          refine v_istore_n fx [(3, .int (iI q_28)), (2, .int (iI 1)), (1, .int (iI (q_1 + q_6))), (0, .ref h0)] dX3_readHorizontal_43 (by decide) rfl rfl ?_
          refine v_iload_n fx 0 dX3_readHorizontal_44 rfl rfl ?_
          refine v_iconst fx dX3_readHorizontal_45 rfl ?_
          refine v_icmp_eq fx 59 dX3_readHorizontal_46 (by decide) rfl (by omega) (by omega) (fun h_31 => ?_) (fun h_31 => ?_)
          ·
            refine v_iconst fx dX3_readHorizontal_59 rfl ?_
            exact v_zretE fx [(h0, ob 3 [.int (iI w), .ref r, .ref md, .ref dm, .ref t1, .ref t2, .ref t3, .ref td, .ref src]), (t1, ob 1 [.ref b1, .int d1]), (b1, aI g n1 f1), (t2, ob 1 [.ref b2, .int d2]), (b2, aI g n2 f2), (src, ob 0 [.ref ba, .int (iI cb), .int (iI p2__29), .int (iI tu)]), (ba, aB g n f), (r, ob 2 [.ref rs, .ref i2_13, .int (iI c)]), (rs, aI g 27 s2_15), (i2_13, aI g m2_14 g2_16), (td, ob 5 [.ref r, .int (iI w), .int (iI tb), .int (iI tn), .int (iI ta), .int (iI tk)])] [4, 5, 6, 7, 8, 9, 10, 0, 1, 2, 3] hr dX3_readHorizontal_60 (by first | rfl | exact nar_z _ (by omega)) rfl rfl ⟨i2_13, m2_14, s2_15, g2_16, e2_17, tn, ta, tk, 0, p2__29, rfl, rfl, (by first | exact hL2 | exact hp6), (by first | exact hR2 | exact hp7), (by first | omega | rfl | assumption), (by first | exact hi2 | exact hp9), (by first | omega | rfl | assumption), (by first | exact hk2 | exact fun _ _ => rfl), (by first | exact TI_keep hp6 (by omega) (by omega) hk2 hp13 | exact hp13), (by first | omega | rfl | assumption), (by exact Or.inl rfl), (by first | omega | rfl | assumption), (by first | omega | rfl | assumption)⟩
          ·
            refine v_iload_n fx 0 dX3_readHorizontal_49 rfl rfl ?_
            refine v_aload_n fx 3 dX3_readHorizontal_50 rfl rfl ?_
            refine v_get fx 4 0 inX3 k248 dX3_readHorizontal_51 rfl rfl (by decide) rfl rfl rfl ?_
            refine v_iload_n fx 2 dX3_readHorizontal_54 rfl rfl ?_
            refine v_isub fx (w - (q_1 + q_6)) dX3_readHorizontal_55 (by rfl) rfl ?_
            refine v_icmp_le fx 61 dX3_readHorizontal_56 (by decide) rfl (by omega) (by omega) (fun h_32 => ?_) (fun h_32 => ?_)
            ·
              refine v_iload_n fx 2 dX3_readHorizontal_61 rfl rfl ?_
              refine v_iload_n fx 0 dX3_readHorizontal_62 rfl rfl ?_
              refine v_iadd fx ((q_1 + q_6) + q_28) dX3_readHorizontal_63 (by rfl) rfl ?_
              refine v_istore_n fx [(1, .int (iI ((q_1 + q_6) + q_28))), (3, .int (iI q_28)), (2, .int (iI 1)), (0, .ref h0)] dX3_readHorizontal_64 (by decide) rfl rfl ?_
              refine v_aload_n fx 3 dX3_readHorizontal_65 rfl rfl ?_
              refine v_iload_n fx 0 dX3_readHorizontal_66 rfl rfl ?_
              refine v_callVE (As := [.int (iI ((q_1 + q_6) + q_28))]) (rest := []) fx [4, 0, 1, 2] [3, 5, 6, 7, 8, 9, 10] [(h0, ob 3 [.int (iI w), .ref r, .ref md, .ref dm, .ref t1, .ref t2, .ref t3, .ref td, .ref src]), (r, ob 2 [.ref rs, .ref i2_13, .int (iI c)]), (rs, aI g 27 s2_15), (i2_13, aI g m2_14 g2_16)] [(td, ob 5 [.ref r, .int (iI w), .int (iI tb), .int (iI tn), .int (iI ta), .int (iI tk)]), (t1, ob 1 [.ref b1, .int d1]), (b1, aI g n1 f1), (t2, ob 1 [.ref b2, .int d2]), (b2, aI g n2 f2), (src, ob 0 [.ref ba, .int (iI cb), .int (iI p2__29), .int (iI tu)]), (ba, aB g n f)] 1 0 (c_X3_turnAt l g h0 w r md dm t1 t2 t3 td src rs i2_13 m2_14 c F s2_15 g2_16 e2_17 ((q_1 + q_6) + q_28) (by first | exact hL2 | exact hp6) (by first | exact hR2 | exact hp7) (by first | omega | decide | assumption) (by first | exact hi2 | exact hp9) (by first | omega | decide | assumption) (by first | omega | decide | assumption) (by first | exact inc_mono hx2 (by omega) | exact inc_mono hp15 (by omega)) (by first | omega | decide | assumption)) dX3_readHorizontal_67 k848 k850 k16 k53 k851 ykX3_turnAt rfl rfl rfl rfl rfl rfl rfl rfl (nl rfl) ⟨nl rfl, nl rfl⟩ ⟨(by show kc_11 + 1 ≤ 5010; omega), (by show ks_12 + 330000 ≤ 660000; omega)⟩ rfl (fun v9 w9 kc_33 ks_34 hu => ?_)
              obtain ⟨i2_35, m2_36, s2_37, g2_38, e2_39, rfl, rfl, u_40, u_41, u_42, u_43, u_44, u_45, u_46⟩ := hu
              refine v_is (wn := [(td, ob 5 [.ref r, .int (iI w), .int (iI tb), .int (iI tn), .int (iI ta), .int (iI tk)]), (t1, ob 1 [.ref b1, .int d1]), (b1, aI g n1 f1), (t2, ob 1 [.ref b2, .int d2]), (b2, aI g n2 f2), (src, ob 0 [.ref ba, .int (iI cb), .int (iI p2__29), .int (iI tu)]), (ba, aB g n f), (h0, ob 3 [.int (iI w), .ref r, .ref md, .ref dm, .ref t1, .ref t2, .ref t3, .ref td, .ref src]), (r, ob 2 [.ref rs, .ref i2_35, .int (iI c)]), (rs, aI g 27 s2_37), (i2_35, aI g m2_36 g2_38)]) (cn := kc_11 + kc_33) (sn := ks_12 + ks_34) (sn2 := []) rfl rfl rfl rfl ?_
              have hL2 := u_40
              have hR2 := u_41
              have hi2 := u_43
              have hk2 : ∀ j : Nat, (j : Int) < F c.toNat → g2_38 j = fi j := by
                first | exact fun j hj => (u_45 j hj).trans (hk2 j hj) | exact u_45
              have hx2 := u_46
              refine v_iinc fx 2 (2) [(2, .int (iI 2)), (1, .int (iI ((q_1 + q_6) + q_28))), (3, .int (iI q_28)), (0, .ref h0)] dX3_readHorizontal_70 rfl (by omega) (by decide) rfl rfl ?_
              refine v_goto fx 10 dX3_readHorizontal_73 (by decide) ?_
              refine v_iload_n fx 0 dX3_readHorizontal_10 rfl rfl ?_
              refine v_iconst fx dX3_readHorizontal_11 rfl ?_
              refine v_icmp_ge fx 76 dX3_readHorizontal_12 (by decide) rfl (by omega) (by omega) (fun h_47 => ?_) (fun h0 => absurd h0 (by omega))
              refine v_aload_n fx 3 dX3_readHorizontal_76 rfl rfl ?_
              refine v_get fx 7 7 inX3 k255 dX3_readHorizontal_77 rfl rfl (by decide) rfl rfl rfl ?_
              refine v_iload_n fx 1 dX3_readHorizontal_80 rfl rfl ?_
              refine v_callV (As := [.int (iI ((q_1 + q_6) + q_28))]) (rest := []) fx [0, 8, 9, 10] [1, 2, 3, 4, 5, 6, 7] [(td, ob 5 [.ref r, .int (iI w), .int (iI tb), .int (iI tn), .int (iI ta), .int (iI tk)]), (r, ob 2 [.ref rs, .ref i2_35, .int (iI c)]), (rs, aI g 27 s2_37), (i2_35, aI g m2_36 g2_38)] [(t1, ob 1 [.ref b1, .int d1]), (b1, aI g n1 f1), (t2, ob 1 [.ref b2, .int d2]), (b2, aI g n2 f2), (src, ob 0 [.ref ba, .int (iI cb), .int (iI p2__29), .int (iI tu)]), (ba, aB g n f), (h0, ob 3 [.int (iI w), .ref r, .ref md, .ref dm, .ref t1, .ref t2, .ref t3, .ref td, .ref src])] 1 0 (c_X5_moveTo l g td r w tb tn ta tk rs i2_35 m2_36 c (fU F (c.toNat + 1) e2_39) s2_37 g2_38 ((q_1 + q_6) + q_28) (by exact hL2) (by exact RI_F hF.1 hR2) (by first | omega | decide | assumption) (by first | omega | decide | assumption) (by first | omega | decide | assumption) (by first | omega | decide | assumption)) dX3_readHorizontal_81 k863 k715 k716 k52 k717 ykX5_moveTo rfl rfl rfl rfl rfl rfl rfl rfl (nl rfl) ⟨nl rfl, nl rfl⟩ ⟨(by show (kc_11 + kc_33) + 0 ≤ 5010; omega), (by show (ks_12 + ks_34) + 0 ≤ 660000; omega)⟩ rfl (fun v9 w9 hu => ?_)
              obtain ⟨x2_48, rfl, rfl, u_49, u_50⟩ := hu
              refine v_is (wn := [(t1, ob 1 [.ref b1, .int d1]), (b1, aI g n1 f1), (t2, ob 1 [.ref b2, .int d2]), (b2, aI g n2 f2), (src, ob 0 [.ref ba, .int (iI cb), .int (iI p2__29), .int (iI tu)]), (ba, aB g n f), (h0, ob 3 [.int (iI w), .ref r, .ref md, .ref dm, .ref t1, .ref t2, .ref t3, .ref td, .ref src]), (td, ob 5 [.ref r, .int (iI w), .int (iI tb), .int (iI x2_48), .int (iI ((q_1 + q_6) + q_28)), .int (iI tk)]), (r, ob 2 [.ref rs, .ref i2_35, .int (iI c)]), (rs, aI g 27 s2_37), (i2_35, aI g m2_36 g2_38)]) (cn := kc_11 + kc_33) (sn := ks_12 + ks_34) (sn2 := []) rfl rfl rfl rfl ?_
              have hT2 := TI_F2 hF.1 (by omega) u_50
              refine v_iconst fx dX3_readHorizontal_84 rfl ?_
              exact v_zretE fx [(h0, ob 3 [.int (iI w), .ref r, .ref md, .ref dm, .ref t1, .ref t2, .ref t3, .ref td, .ref src]), (t1, ob 1 [.ref b1, .int d1]), (b1, aI g n1 f1), (t2, ob 1 [.ref b2, .int d2]), (b2, aI g n2 f2), (src, ob 0 [.ref ba, .int (iI cb), .int (iI p2__29), .int (iI tu)]), (ba, aB g n f), (r, ob 2 [.ref rs, .ref i2_35, .int (iI c)]), (rs, aI g 27 s2_37), (i2_35, aI g m2_36 g2_38), (td, ob 5 [.ref r, .int (iI w), .int (iI tb), .int (iI x2_48), .int (iI ((q_1 + q_6) + q_28)), .int (iI tk)])] [6, 0, 1, 2, 3, 4, 5, 8, 9, 10, 7] hr dX3_readHorizontal_85 (by first | rfl | exact nar_z _ (by omega)) rfl rfl ⟨i2_35, m2_36, s2_37, g2_38, e2_39, x2_48, ((q_1 + q_6) + q_28), tk, 1, p2__29, rfl, rfl, (by exact hL2), (by exact hR2), (by first | omega | rfl | assumption), (by exact hi2), (by first | omega | rfl | assumption), (by exact hk2), (by exact hT2), (by first | omega | rfl | assumption), (by exact Or.inr (inc_mono hx2 (by omega))), (by first | omega | rfl | assumption), (by first | omega | rfl | assumption)⟩
            ·
              refine v_iconst fx dX3_readHorizontal_59 rfl ?_
              exact v_zretE fx [(h0, ob 3 [.int (iI w), .ref r, .ref md, .ref dm, .ref t1, .ref t2, .ref t3, .ref td, .ref src]), (t1, ob 1 [.ref b1, .int d1]), (b1, aI g n1 f1), (t2, ob 1 [.ref b2, .int d2]), (b2, aI g n2 f2), (src, ob 0 [.ref ba, .int (iI cb), .int (iI p2__29), .int (iI tu)]), (ba, aB g n f), (r, ob 2 [.ref rs, .ref i2_13, .int (iI c)]), (rs, aI g 27 s2_15), (i2_13, aI g m2_14 g2_16), (td, ob 5 [.ref r, .int (iI w), .int (iI tb), .int (iI tn), .int (iI ta), .int (iI tk)])] [4, 5, 6, 7, 8, 9, 10, 0, 1, 2, 3] hr dX3_readHorizontal_60 (by first | rfl | exact nar_z _ (by omega)) rfl rfl ⟨i2_13, m2_14, s2_15, g2_16, e2_17, tn, ta, tk, 0, p2__29, rfl, rfl, (by first | exact hL2 | exact hp6), (by first | exact hR2 | exact hp7), (by first | omega | rfl | assumption), (by first | exact hi2 | exact hp9), (by first | omega | rfl | assumption), (by first | exact hk2 | exact fun _ _ => rfl), (by first | exact TI_keep hp6 (by omega) (by omega) hk2 hp13 | exact hp13), (by first | omega | rfl | assumption), (by exact Or.inl rfl), (by first | omega | rfl | assumption), (by first | omega | rfl | assumption)⟩
        ·
          refine v_iconst fx dX3_readHorizontal_35 rfl ?_
          refine v_goto fx 40 dX3_readHorizontal_36 (by decide) ?_
          refine v_callV (As := [.int (iI 1)]) (rest := []) fx [6, 0, 1, 2, 3, 4, 5] [7, 8, 9, 10] [(h0, ob 3 [.int (iI w), .ref r, .ref md, .ref dm, .ref t1, .ref t2, .ref t3, .ref td, .ref src]), (t1, ob 1 [.ref b1, .int d1]), (b1, aI g n1 f1), (t2, ob 1 [.ref b2, .int d2]), (b2, aI g n2 f2), (src, ob 0 [.ref ba, .int (iI cb), .int (iI p2__7), .int (iI tu)]), (ba, aB g n f)] [(r, ob 2 [.ref rs, .ref i2_13, .int (iI c)]), (rs, aI g 27 s2_15), (i2_13, aI g m2_14 g2_16), (td, ob 5 [.ref r, .int (iI w), .int (iI tb), .int (iI tn), .int (iI ta), .int (iI tk)])] 1 0 (c_X3_readRun l g h0 w r md dm t1 t2 t3 td b1 n1 b2 n2 f1 f2 d1 d2 src ba n f cb p2__7 tu 1 (by first | omega | decide | assumption) (by exact hp1) (by first | omega | decide | assumption) (by first | omega | decide | assumption) (by exact hp4) (by exact hp5) (by first | omega | decide | assumption)) dX3_readHorizontal_40 k844 k846 k15 k53 k847 ykX3_readRun rfl rfl rfl rfl rfl rfl rfl rfl (nl rfl) ⟨nl rfl, nl rfl⟩ ⟨(by show kc_11 + 0 ≤ 5010; omega), (by show ks_12 + 0 ≤ 660000; omega)⟩ rfl (fun v9 w9 hu => ?_)
          obtain ⟨q_51, p2__52, rfl, rfl, u_53⟩ := hu
          refine v_is (wn := [(r, ob 2 [.ref rs, .ref i2_13, .int (iI c)]), (rs, aI g 27 s2_15), (i2_13, aI g m2_14 g2_16), (td, ob 5 [.ref r, .int (iI w), .int (iI tb), .int (iI tn), .int (iI ta), .int (iI tk)]), (h0, ob 3 [.int (iI w), .ref r, .ref md, .ref dm, .ref t1, .ref t2, .ref t3, .ref td, .ref src]), (t1, ob 1 [.ref b1, .int d1]), (b1, aI g n1 f1), (t2, ob 1 [.ref b2, .int d2]), (b2, aI g n2 f2), (src, ob 0 [.ref ba, .int (iI cb), .int (iI p2__52), .int (iI tu)]), (ba, aB g n f)]) (cn := kc_11) (sn := ks_12) (sn2 := [.int (iI q_51)]) rfl rfl rfl rfl ?_
          refine v_istore_n fx [(3, .int (iI q_51)), (2, .int (iI 1)), (1, .int (iI (q_1 + q_6))), (0, .ref h0)] dX3_readHorizontal_43 (by decide) rfl rfl ?_
          refine v_iload_n fx 0 dX3_readHorizontal_44 rfl rfl ?_
          refine v_iconst fx dX3_readHorizontal_45 rfl ?_
          refine v_icmp_eq fx 59 dX3_readHorizontal_46 (by decide) rfl (by omega) (by omega) (fun h_54 => ?_) (fun h_54 => ?_)
          ·
            refine v_iconst fx dX3_readHorizontal_59 rfl ?_
            exact v_zretE fx [(h0, ob 3 [.int (iI w), .ref r, .ref md, .ref dm, .ref t1, .ref t2, .ref t3, .ref td, .ref src]), (t1, ob 1 [.ref b1, .int d1]), (b1, aI g n1 f1), (t2, ob 1 [.ref b2, .int d2]), (b2, aI g n2 f2), (src, ob 0 [.ref ba, .int (iI cb), .int (iI p2__52), .int (iI tu)]), (ba, aB g n f), (r, ob 2 [.ref rs, .ref i2_13, .int (iI c)]), (rs, aI g 27 s2_15), (i2_13, aI g m2_14 g2_16), (td, ob 5 [.ref r, .int (iI w), .int (iI tb), .int (iI tn), .int (iI ta), .int (iI tk)])] [4, 5, 6, 7, 8, 9, 10, 0, 1, 2, 3] hr dX3_readHorizontal_60 (by first | rfl | exact nar_z _ (by omega)) rfl rfl ⟨i2_13, m2_14, s2_15, g2_16, e2_17, tn, ta, tk, 0, p2__52, rfl, rfl, (by first | exact hL2 | exact hp6), (by first | exact hR2 | exact hp7), (by first | omega | rfl | assumption), (by first | exact hi2 | exact hp9), (by first | omega | rfl | assumption), (by first | exact hk2 | exact fun _ _ => rfl), (by first | exact TI_keep hp6 (by omega) (by omega) hk2 hp13 | exact hp13), (by first | omega | rfl | assumption), (by exact Or.inl rfl), (by first | omega | rfl | assumption), (by first | omega | rfl | assumption)⟩
          ·
            refine v_iload_n fx 0 dX3_readHorizontal_49 rfl rfl ?_
            refine v_aload_n fx 3 dX3_readHorizontal_50 rfl rfl ?_
            refine v_get fx 4 0 inX3 k248 dX3_readHorizontal_51 rfl rfl (by decide) rfl rfl rfl ?_
            refine v_iload_n fx 2 dX3_readHorizontal_54 rfl rfl ?_
            refine v_isub fx (w - (q_1 + q_6)) dX3_readHorizontal_55 (by rfl) rfl ?_
            refine v_icmp_le fx 61 dX3_readHorizontal_56 (by decide) rfl (by omega) (by omega) (fun h_55 => ?_) (fun h_55 => ?_)
            ·
              refine v_iload_n fx 2 dX3_readHorizontal_61 rfl rfl ?_
              refine v_iload_n fx 0 dX3_readHorizontal_62 rfl rfl ?_
              refine v_iadd fx ((q_1 + q_6) + q_51) dX3_readHorizontal_63 (by rfl) rfl ?_
              refine v_istore_n fx [(1, .int (iI ((q_1 + q_6) + q_51))), (3, .int (iI q_51)), (2, .int (iI 1)), (0, .ref h0)] dX3_readHorizontal_64 (by decide) rfl rfl ?_
              refine v_aload_n fx 3 dX3_readHorizontal_65 rfl rfl ?_
              refine v_iload_n fx 0 dX3_readHorizontal_66 rfl rfl ?_
              refine v_callVE (As := [.int (iI ((q_1 + q_6) + q_51))]) (rest := []) fx [4, 0, 1, 2] [3, 5, 6, 7, 8, 9, 10] [(h0, ob 3 [.int (iI w), .ref r, .ref md, .ref dm, .ref t1, .ref t2, .ref t3, .ref td, .ref src]), (r, ob 2 [.ref rs, .ref i2_13, .int (iI c)]), (rs, aI g 27 s2_15), (i2_13, aI g m2_14 g2_16)] [(td, ob 5 [.ref r, .int (iI w), .int (iI tb), .int (iI tn), .int (iI ta), .int (iI tk)]), (t1, ob 1 [.ref b1, .int d1]), (b1, aI g n1 f1), (t2, ob 1 [.ref b2, .int d2]), (b2, aI g n2 f2), (src, ob 0 [.ref ba, .int (iI cb), .int (iI p2__52), .int (iI tu)]), (ba, aB g n f)] 1 0 (c_X3_turnAt l g h0 w r md dm t1 t2 t3 td src rs i2_13 m2_14 c F s2_15 g2_16 e2_17 ((q_1 + q_6) + q_51) (by first | exact hL2 | exact hp6) (by first | exact hR2 | exact hp7) (by first | omega | decide | assumption) (by first | exact hi2 | exact hp9) (by first | omega | decide | assumption) (by first | omega | decide | assumption) (by first | exact inc_mono hx2 (by omega) | exact inc_mono hp15 (by omega)) (by first | omega | decide | assumption)) dX3_readHorizontal_67 k848 k850 k16 k53 k851 ykX3_turnAt rfl rfl rfl rfl rfl rfl rfl rfl (nl rfl) ⟨nl rfl, nl rfl⟩ ⟨(by show kc_11 + 1 ≤ 5010; omega), (by show ks_12 + 330000 ≤ 660000; omega)⟩ rfl (fun v9 w9 kc_56 ks_57 hu => ?_)
              obtain ⟨i2_58, m2_59, s2_60, g2_61, e2_62, rfl, rfl, u_63, u_64, u_65, u_66, u_67, u_68, u_69⟩ := hu
              refine v_is (wn := [(td, ob 5 [.ref r, .int (iI w), .int (iI tb), .int (iI tn), .int (iI ta), .int (iI tk)]), (t1, ob 1 [.ref b1, .int d1]), (b1, aI g n1 f1), (t2, ob 1 [.ref b2, .int d2]), (b2, aI g n2 f2), (src, ob 0 [.ref ba, .int (iI cb), .int (iI p2__52), .int (iI tu)]), (ba, aB g n f), (h0, ob 3 [.int (iI w), .ref r, .ref md, .ref dm, .ref t1, .ref t2, .ref t3, .ref td, .ref src]), (r, ob 2 [.ref rs, .ref i2_58, .int (iI c)]), (rs, aI g 27 s2_60), (i2_58, aI g m2_59 g2_61)]) (cn := kc_11 + kc_56) (sn := ks_12 + ks_57) (sn2 := []) rfl rfl rfl rfl ?_
              have hL2 := u_63
              have hR2 := u_64
              have hi2 := u_66
              have hk2 : ∀ j : Nat, (j : Int) < F c.toNat → g2_61 j = fi j := by
                first | exact fun j hj => (u_68 j hj).trans (hk2 j hj) | exact u_68
              have hx2 := u_69
              refine v_iinc fx 2 (2) [(2, .int (iI 2)), (1, .int (iI ((q_1 + q_6) + q_51))), (3, .int (iI q_51)), (0, .ref h0)] dX3_readHorizontal_70 rfl (by omega) (by decide) rfl rfl ?_
              refine v_goto fx 10 dX3_readHorizontal_73 (by decide) ?_
              refine v_iload_n fx 0 dX3_readHorizontal_10 rfl rfl ?_
              refine v_iconst fx dX3_readHorizontal_11 rfl ?_
              refine v_icmp_ge fx 76 dX3_readHorizontal_12 (by decide) rfl (by omega) (by omega) (fun h_70 => ?_) (fun h0 => absurd h0 (by omega))
              refine v_aload_n fx 3 dX3_readHorizontal_76 rfl rfl ?_
              refine v_get fx 7 7 inX3 k255 dX3_readHorizontal_77 rfl rfl (by decide) rfl rfl rfl ?_
              refine v_iload_n fx 1 dX3_readHorizontal_80 rfl rfl ?_
              refine v_callV (As := [.int (iI ((q_1 + q_6) + q_51))]) (rest := []) fx [0, 8, 9, 10] [1, 2, 3, 4, 5, 6, 7] [(td, ob 5 [.ref r, .int (iI w), .int (iI tb), .int (iI tn), .int (iI ta), .int (iI tk)]), (r, ob 2 [.ref rs, .ref i2_58, .int (iI c)]), (rs, aI g 27 s2_60), (i2_58, aI g m2_59 g2_61)] [(t1, ob 1 [.ref b1, .int d1]), (b1, aI g n1 f1), (t2, ob 1 [.ref b2, .int d2]), (b2, aI g n2 f2), (src, ob 0 [.ref ba, .int (iI cb), .int (iI p2__52), .int (iI tu)]), (ba, aB g n f), (h0, ob 3 [.int (iI w), .ref r, .ref md, .ref dm, .ref t1, .ref t2, .ref t3, .ref td, .ref src])] 1 0 (c_X5_moveTo l g td r w tb tn ta tk rs i2_58 m2_59 c (fU F (c.toNat + 1) e2_62) s2_60 g2_61 ((q_1 + q_6) + q_51) (by exact hL2) (by exact RI_F hF.1 hR2) (by first | omega | decide | assumption) (by first | omega | decide | assumption) (by first | omega | decide | assumption) (by first | omega | decide | assumption)) dX3_readHorizontal_81 k863 k715 k716 k52 k717 ykX5_moveTo rfl rfl rfl rfl rfl rfl rfl rfl (nl rfl) ⟨nl rfl, nl rfl⟩ ⟨(by show (kc_11 + kc_56) + 0 ≤ 5010; omega), (by show (ks_12 + ks_57) + 0 ≤ 660000; omega)⟩ rfl (fun v9 w9 hu => ?_)
              obtain ⟨x2_71, rfl, rfl, u_72, u_73⟩ := hu
              refine v_is (wn := [(t1, ob 1 [.ref b1, .int d1]), (b1, aI g n1 f1), (t2, ob 1 [.ref b2, .int d2]), (b2, aI g n2 f2), (src, ob 0 [.ref ba, .int (iI cb), .int (iI p2__52), .int (iI tu)]), (ba, aB g n f), (h0, ob 3 [.int (iI w), .ref r, .ref md, .ref dm, .ref t1, .ref t2, .ref t3, .ref td, .ref src]), (td, ob 5 [.ref r, .int (iI w), .int (iI tb), .int (iI x2_71), .int (iI ((q_1 + q_6) + q_51)), .int (iI tk)]), (r, ob 2 [.ref rs, .ref i2_58, .int (iI c)]), (rs, aI g 27 s2_60), (i2_58, aI g m2_59 g2_61)]) (cn := kc_11 + kc_56) (sn := ks_12 + ks_57) (sn2 := []) rfl rfl rfl rfl ?_
              have hT2 := TI_F2 hF.1 (by omega) u_73
              refine v_iconst fx dX3_readHorizontal_84 rfl ?_
              exact v_zretE fx [(h0, ob 3 [.int (iI w), .ref r, .ref md, .ref dm, .ref t1, .ref t2, .ref t3, .ref td, .ref src]), (t1, ob 1 [.ref b1, .int d1]), (b1, aI g n1 f1), (t2, ob 1 [.ref b2, .int d2]), (b2, aI g n2 f2), (src, ob 0 [.ref ba, .int (iI cb), .int (iI p2__52), .int (iI tu)]), (ba, aB g n f), (r, ob 2 [.ref rs, .ref i2_58, .int (iI c)]), (rs, aI g 27 s2_60), (i2_58, aI g m2_59 g2_61), (td, ob 5 [.ref r, .int (iI w), .int (iI tb), .int (iI x2_71), .int (iI ((q_1 + q_6) + q_51)), .int (iI tk)])] [6, 0, 1, 2, 3, 4, 5, 8, 9, 10, 7] hr dX3_readHorizontal_85 (by first | rfl | exact nar_z _ (by omega)) rfl rfl ⟨i2_58, m2_59, s2_60, g2_61, e2_62, x2_71, ((q_1 + q_6) + q_51), tk, 1, p2__52, rfl, rfl, (by exact hL2), (by exact hR2), (by first | omega | rfl | assumption), (by exact hi2), (by first | omega | rfl | assumption), (by exact hk2), (by exact hT2), (by first | omega | rfl | assumption), (by exact Or.inr (inc_mono hx2 (by omega))), (by first | omega | rfl | assumption), (by first | omega | rfl | assumption)⟩
            ·
              refine v_iconst fx dX3_readHorizontal_59 rfl ?_
              exact v_zretE fx [(h0, ob 3 [.int (iI w), .ref r, .ref md, .ref dm, .ref t1, .ref t2, .ref t3, .ref td, .ref src]), (t1, ob 1 [.ref b1, .int d1]), (b1, aI g n1 f1), (t2, ob 1 [.ref b2, .int d2]), (b2, aI g n2 f2), (src, ob 0 [.ref ba, .int (iI cb), .int (iI p2__52), .int (iI tu)]), (ba, aB g n f), (r, ob 2 [.ref rs, .ref i2_13, .int (iI c)]), (rs, aI g 27 s2_15), (i2_13, aI g m2_14 g2_16), (td, ob 5 [.ref r, .int (iI w), .int (iI tb), .int (iI tn), .int (iI ta), .int (iI tk)])] [4, 5, 6, 7, 8, 9, 10, 0, 1, 2, 3] hr dX3_readHorizontal_60 (by first | rfl | exact nar_z _ (by omega)) rfl rfl ⟨i2_13, m2_14, s2_15, g2_16, e2_17, tn, ta, tk, 0, p2__52, rfl, rfl, (by first | exact hL2 | exact hp6), (by first | exact hR2 | exact hp7), (by first | omega | rfl | assumption), (by first | exact hi2 | exact hp9), (by first | omega | rfl | assumption), (by first | exact hk2 | exact fun _ _ => rfl), (by first | exact TI_keep hp6 (by omega) (by omega) hk2 hp13 | exact hp13), (by first | omega | rfl | assumption), (by exact Or.inl rfl), (by first | omega | rfl | assumption), (by first | omega | rfl | assumption)⟩
      ·
        refine v_iconst fx dX3_readHorizontal_59 rfl ?_
        exact v_zretE fx [(h0, ob 3 [.int (iI w), .ref r, .ref md, .ref dm, .ref t1, .ref t2, .ref t3, .ref td, .ref src]), (t1, ob 1 [.ref b1, .int d1]), (b1, aI g n1 f1), (t2, ob 1 [.ref b2, .int d2]), (b2, aI g n2 f2), (src, ob 0 [.ref ba, .int (iI cb), .int (iI p2__7), .int (iI tu)]), (ba, aB g n f), (r, ob 2 [.ref rs, .ref it, .int (iI c)]), (rs, aI g 27 fs), (it, aI g m fi), (td, ob 5 [.ref r, .int (iI w), .int (iI tb), .int (iI tn), .int (iI ta), .int (iI tk)])] [4, 5, 6, 7, 8, 9, 10, 0, 1, 2, 3] hr dX3_readHorizontal_60 (by first | rfl | exact nar_z _ (by omega)) rfl rfl ⟨it, m, fs, fi, e, tn, ta, tk, 0, p2__7, rfl, rfl, (by first | exact hL2 | exact hp6), (by first | exact hR2 | exact hp7), (by first | omega | rfl | assumption), (by first | exact hi2 | exact hp9), (by first | omega | rfl | assumption), (by first | exact hk2 | exact fun _ _ => rfl), (by first | exact TI_keep hp6 (by omega) (by omega) hk2 hp13 | exact hp13), (by first | omega | rfl | assumption), (by exact Or.inl rfl), (by first | omega | rfl | assumption), (by first | omega | rfl | assumption)⟩
  ·
    refine v_iconst fx dX3_readHorizontal_35 rfl ?_
    refine v_goto fx 40 dX3_readHorizontal_36 (by decide) ?_
    refine v_callV (As := [.int (iI 1)]) (rest := []) fx [0, 1, 2, 3, 4, 5, 6] [7, 8, 9, 10] [(h0, ob 3 [.int (iI w), .ref r, .ref md, .ref dm, .ref t1, .ref t2, .ref t3, .ref td, .ref src]), (t1, ob 1 [.ref b1, .int d1]), (b1, aI g n1 f1), (t2, ob 1 [.ref b2, .int d2]), (b2, aI g n2 f2), (src, ob 0 [.ref ba, .int (iI cb), .int (iI pl), .int (iI tu)]), (ba, aB g n f)] [(r, ob 2 [.ref rs, .ref it, .int (iI c)]), (rs, aI g 27 fs), (it, aI g m fi), (td, ob 5 [.ref r, .int (iI w), .int (iI tb), .int (iI tn), .int (iI ta), .int (iI tk)])] 1 0 (c_X3_readRun l g h0 w r md dm t1 t2 t3 td b1 n1 b2 n2 f1 f2 d1 d2 src ba n f cb pl tu 1 (by first | omega | decide | assumption) (by exact hp1) (by first | omega | decide | assumption) (by first | omega | decide | assumption) (by exact hp4) (by exact hp5) (by first | omega | decide | assumption)) dX3_readHorizontal_40 k844 k846 k15 k53 k847 ykX3_readRun rfl rfl rfl rfl rfl rfl rfl rfl (nl rfl) ⟨nl rfl, nl rfl⟩ ⟨(nl rfl), (nl rfl)⟩ rfl (fun v9 w9 hu => ?_)
    obtain ⟨q_74, p2__75, rfl, rfl, u_76⟩ := hu
    refine v_is (wn := [(r, ob 2 [.ref rs, .ref it, .int (iI c)]), (rs, aI g 27 fs), (it, aI g m fi), (td, ob 5 [.ref r, .int (iI w), .int (iI tb), .int (iI tn), .int (iI ta), .int (iI tk)]), (h0, ob 3 [.int (iI w), .ref r, .ref md, .ref dm, .ref t1, .ref t2, .ref t3, .ref td, .ref src]), (t1, ob 1 [.ref b1, .int d1]), (b1, aI g n1 f1), (t2, ob 1 [.ref b2, .int d2]), (b2, aI g n2 f2), (src, ob 0 [.ref ba, .int (iI cb), .int (iI p2__75), .int (iI tu)]), (ba, aB g n f)]) (cn := 0) (sn := 0) (sn2 := [.int (iI q_74)]) rfl rfl rfl rfl ?_
    refine v_istore_n fx [(3, .int (iI q_74)), (2, .int (iI 0)), (1, .int (iI q_1)), (0, .ref h0)] dX3_readHorizontal_43 (by decide) rfl rfl ?_
    refine v_iload_n fx 0 dX3_readHorizontal_44 rfl rfl ?_
    refine v_iconst fx dX3_readHorizontal_45 rfl ?_
    refine v_icmp_eq fx 59 dX3_readHorizontal_46 (by decide) rfl (by omega) (by omega) (fun h_77 => ?_) (fun h_77 => ?_)
    ·
      refine v_iconst fx dX3_readHorizontal_59 rfl ?_
      exact v_zretE fx [(h0, ob 3 [.int (iI w), .ref r, .ref md, .ref dm, .ref t1, .ref t2, .ref t3, .ref td, .ref src]), (t1, ob 1 [.ref b1, .int d1]), (b1, aI g n1 f1), (t2, ob 1 [.ref b2, .int d2]), (b2, aI g n2 f2), (src, ob 0 [.ref ba, .int (iI cb), .int (iI p2__75), .int (iI tu)]), (ba, aB g n f), (r, ob 2 [.ref rs, .ref it, .int (iI c)]), (rs, aI g 27 fs), (it, aI g m fi), (td, ob 5 [.ref r, .int (iI w), .int (iI tb), .int (iI tn), .int (iI ta), .int (iI tk)])] [4, 5, 6, 7, 8, 9, 10, 0, 1, 2, 3] hr dX3_readHorizontal_60 (by first | rfl | exact nar_z _ (by omega)) rfl rfl ⟨it, m, fs, fi, e, tn, ta, tk, 0, p2__75, rfl, rfl, (by first | exact hL2 | exact hp6), (by first | exact hR2 | exact hp7), (by first | omega | rfl | assumption), (by first | exact hi2 | exact hp9), (by first | omega | rfl | assumption), (by first | exact hk2 | exact fun _ _ => rfl), (by first | exact TI_keep hp6 (by omega) (by omega) hk2 hp13 | exact hp13), (by first | omega | rfl | assumption), (by exact Or.inl rfl), (by first | omega | rfl | assumption), (by first | omega | rfl | assumption)⟩
    ·
      refine v_iload_n fx 0 dX3_readHorizontal_49 rfl rfl ?_
      refine v_aload_n fx 3 dX3_readHorizontal_50 rfl rfl ?_
      refine v_get fx 4 0 inX3 k248 dX3_readHorizontal_51 rfl rfl (by decide) rfl rfl rfl ?_
      refine v_iload_n fx 2 dX3_readHorizontal_54 rfl rfl ?_
      refine v_isub fx (w - q_1) dX3_readHorizontal_55 (by rfl) rfl ?_
      refine v_icmp_le fx 61 dX3_readHorizontal_56 (by decide) rfl (by omega) (by omega) (fun h_78 => ?_) (fun h_78 => ?_)
      ·
        refine v_iload_n fx 2 dX3_readHorizontal_61 rfl rfl ?_
        refine v_iload_n fx 0 dX3_readHorizontal_62 rfl rfl ?_
        refine v_iadd fx (q_1 + q_74) dX3_readHorizontal_63 (by rfl) rfl ?_
        refine v_istore_n fx [(1, .int (iI (q_1 + q_74))), (3, .int (iI q_74)), (2, .int (iI 0)), (0, .ref h0)] dX3_readHorizontal_64 (by decide) rfl rfl ?_
        refine v_aload_n fx 3 dX3_readHorizontal_65 rfl rfl ?_
        refine v_iload_n fx 0 dX3_readHorizontal_66 rfl rfl ?_
        refine v_callVE (As := [.int (iI (q_1 + q_74))]) (rest := []) fx [4, 0, 1, 2] [3, 5, 6, 7, 8, 9, 10] [(h0, ob 3 [.int (iI w), .ref r, .ref md, .ref dm, .ref t1, .ref t2, .ref t3, .ref td, .ref src]), (r, ob 2 [.ref rs, .ref it, .int (iI c)]), (rs, aI g 27 fs), (it, aI g m fi)] [(td, ob 5 [.ref r, .int (iI w), .int (iI tb), .int (iI tn), .int (iI ta), .int (iI tk)]), (t1, ob 1 [.ref b1, .int d1]), (b1, aI g n1 f1), (t2, ob 1 [.ref b2, .int d2]), (b2, aI g n2 f2), (src, ob 0 [.ref ba, .int (iI cb), .int (iI p2__75), .int (iI tu)]), (ba, aB g n f)] 1 0 (c_X3_turnAt l g h0 w r md dm t1 t2 t3 td src rs it m c F fs fi e (q_1 + q_74) (by first | exact hL2 | exact hp6) (by first | exact hR2 | exact hp7) (by first | omega | decide | assumption) (by first | exact hi2 | exact hp9) (by first | omega | decide | assumption) (by first | omega | decide | assumption) (by first | exact inc_mono hx2 (by omega) | exact inc_mono hp15 (by omega)) (by first | omega | decide | assumption)) dX3_readHorizontal_67 k848 k850 k16 k53 k851 ykX3_turnAt rfl rfl rfl rfl rfl rfl rfl rfl (nl rfl) ⟨nl rfl, nl rfl⟩ ⟨(nl rfl), (nl rfl)⟩ rfl (fun v9 w9 kc_79 ks_80 hu => ?_)
        obtain ⟨i2_81, m2_82, s2_83, g2_84, e2_85, rfl, rfl, u_86, u_87, u_88, u_89, u_90, u_91, u_92⟩ := hu
        refine v_is (wn := [(td, ob 5 [.ref r, .int (iI w), .int (iI tb), .int (iI tn), .int (iI ta), .int (iI tk)]), (t1, ob 1 [.ref b1, .int d1]), (b1, aI g n1 f1), (t2, ob 1 [.ref b2, .int d2]), (b2, aI g n2 f2), (src, ob 0 [.ref ba, .int (iI cb), .int (iI p2__75), .int (iI tu)]), (ba, aB g n f), (h0, ob 3 [.int (iI w), .ref r, .ref md, .ref dm, .ref t1, .ref t2, .ref t3, .ref td, .ref src]), (r, ob 2 [.ref rs, .ref i2_81, .int (iI c)]), (rs, aI g 27 s2_83), (i2_81, aI g m2_82 g2_84)]) (cn := kc_79) (sn := ks_80) (sn2 := []) rfl (Nat.zero_add _) (Nat.zero_add _) rfl ?_
        have hL2 := u_86
        have hR2 := u_87
        have hi2 := u_89
        have hk2 : ∀ j : Nat, (j : Int) < F c.toNat → g2_84 j = fi j := by
          first | exact fun j hj => (u_91 j hj).trans (hk2 j hj) | exact u_91
        have hx2 := u_92
        refine v_iinc fx 2 (1) [(2, .int (iI 1)), (1, .int (iI (q_1 + q_74))), (3, .int (iI q_74)), (0, .ref h0)] dX3_readHorizontal_70 rfl (by omega) (by decide) rfl rfl ?_
        refine v_goto fx 10 dX3_readHorizontal_73 (by decide) ?_
        refine v_iload_n fx 0 dX3_readHorizontal_10 rfl rfl ?_
        refine v_iconst fx dX3_readHorizontal_11 rfl ?_
        refine v_icmp_ge fx 76 dX3_readHorizontal_12 (by decide) rfl (by omega) (by omega) (fun h0 => absurd h0 (by omega)) (fun h_93 => ?_)
        refine v_aload_n fx 3 dX3_readHorizontal_15 rfl rfl ?_
        refine v_aload_n fx 3 dX3_readHorizontal_16 rfl rfl ?_
        refine v_get fx 7 7 inX3 k255 dX3_readHorizontal_17 rfl rfl (by decide) rfl rfl rfl ?_
        refine v_callV (As := []) (rest := [.ref h0]) fx [0] [1, 2, 3, 4, 5, 6, 7, 8, 9, 10] [(td, ob 5 [.ref r, .int (iI w), .int (iI tb), .int (iI tn), .int (iI ta), .int (iI tk)])] [(t1, ob 1 [.ref b1, .int d1]), (b1, aI g n1 f1), (t2, ob 1 [.ref b2, .int d2]), (b2, aI g n2 f2), (src, ob 0 [.ref ba, .int (iI cb), .int (iI p2__75), .int (iI tu)]), (ba, aB g n f), (h0, ob 3 [.int (iI w), .ref r, .ref md, .ref dm, .ref t1, .ref t2, .ref t3, .ref td, .ref src]), (r, ob 2 [.ref rs, .ref i2_81, .int (iI c)]), (rs, aI g 27 s2_83), (i2_81, aI g m2_82 g2_84)] 0 0 (c_X5_isBlack l g td r w tb tn ta tk (by first | omega | decide | assumption)) dX3_readHorizontal_20 k843 k733 k734 k52 k735 ykX5_isBlack rfl rfl rfl rfl rfl rfl rfl rfl (nl rfl) ⟨nl rfl, nl rfl⟩ ⟨(by show kc_79 + 0 ≤ 5010; omega), (by show ks_80 + 0 ≤ 660000; omega)⟩ rfl (fun v9 w9 hu => ?_)
        obtain ⟨rfl, rfl⟩ := hu
        refine v_is (wn := [(t1, ob 1 [.ref b1, .int d1]), (b1, aI g n1 f1), (t2, ob 1 [.ref b2, .int d2]), (b2, aI g n2 f2), (src, ob 0 [.ref ba, .int (iI cb), .int (iI p2__75), .int (iI tu)]), (ba, aB g n f), (h0, ob 3 [.int (iI w), .ref r, .ref md, .ref dm, .ref t1, .ref t2, .ref t3, .ref td, .ref src]), (r, ob 2 [.ref rs, .ref i2_81, .int (iI c)]), (rs, aI g 27 s2_83), (i2_81, aI g m2_82 g2_84), (td, ob 5 [.ref r, .int (iI w), .int (iI tb), .int (iI tn), .int (iI ta), .int (iI tk)])]) (cn := kc_79) (sn := ks_80) (sn2 := [.int (iI tk), .ref h0]) rfl rfl rfl rfl ?_
        refine v_iload_n fx 0 dX3_readHorizontal_23 rfl rfl ?_
        refine v_if_ne fx 31 dX3_readHorizontal_24 (by decide) rfl (by omega) (fun h_94 => ?_) (fun h0 => absurd h0 (by omega))
        refine v_iconst fx dX3_readHorizontal_31 rfl ?_
        refine v_icmp_ne fx 39 dX3_readHorizontal_32 (by decide) rfl (by omega) (by omega) (fun h_95 => ?_) (fun h_95 => ?_)
        ·
          refine v_iconst fx dX3_readHorizontal_39 rfl ?_
          refine v_callV (As := [.int (iI 0)]) (rest := []) fx [6, 0, 1, 2, 3, 4, 5] [7, 8, 9, 10] [(h0, ob 3 [.int (iI w), .ref r, .ref md, .ref dm, .ref t1, .ref t2, .ref t3, .ref td, .ref src]), (t1, ob 1 [.ref b1, .int d1]), (b1, aI g n1 f1), (t2, ob 1 [.ref b2, .int d2]), (b2, aI g n2 f2), (src, ob 0 [.ref ba, .int (iI cb), .int (iI p2__75), .int (iI tu)]), (ba, aB g n f)] [(r, ob 2 [.ref rs, .ref i2_81, .int (iI c)]), (rs, aI g 27 s2_83), (i2_81, aI g m2_82 g2_84), (td, ob 5 [.ref r, .int (iI w), .int (iI tb), .int (iI tn), .int (iI ta), .int (iI tk)])] 1 0 (c_X3_readRun l g h0 w r md dm t1 t2 t3 td b1 n1 b2 n2 f1 f2 d1 d2 src ba n f cb p2__75 tu 0 (by first | omega | decide | assumption) (by exact hp1) (by first | omega | decide | assumption) (by first | omega | decide | assumption) (by exact hp4) (by exact hp5) (by first | omega | decide | assumption)) dX3_readHorizontal_40 k844 k846 k15 k53 k847 ykX3_readRun rfl rfl rfl rfl rfl rfl rfl rfl (nl rfl) ⟨nl rfl, nl rfl⟩ ⟨(by show kc_79 + 0 ≤ 5010; omega), (by show ks_80 + 0 ≤ 660000; omega)⟩ rfl (fun v9 w9 hu => ?_)
          obtain ⟨q_96, p2__97, rfl, rfl, u_98⟩ := hu
          refine v_is (wn := [(r, ob 2 [.ref rs, .ref i2_81, .int (iI c)]), (rs, aI g 27 s2_83), (i2_81, aI g m2_82 g2_84), (td, ob 5 [.ref r, .int (iI w), .int (iI tb), .int (iI tn), .int (iI ta), .int (iI tk)]), (h0, ob 3 [.int (iI w), .ref r, .ref md, .ref dm, .ref t1, .ref t2, .ref t3, .ref td, .ref src]), (t1, ob 1 [.ref b1, .int d1]), (b1, aI g n1 f1), (t2, ob 1 [.ref b2, .int d2]), (b2, aI g n2 f2), (src, ob 0 [.ref ba, .int (iI cb), .int (iI p2__97), .int (iI tu)]), (ba, aB g n f)]) (cn := kc_79) (sn := ks_80) (sn2 := [.int (iI q_96)]) rfl rfl rfl rfl ?_
          refine v_istore_n fx [(3, .int (iI q_96)), (2, .int (iI 1)), (1, .int (iI (q_1 + q_74))), (0, .ref h0)] dX3_readHorizontal_43 (by decide) rfl rfl ?_
          refine v_iload_n fx 0 dX3_readHorizontal_44 rfl rfl ?_
          refine v_iconst fx dX3_readHorizontal_45 rfl ?_
          refine v_icmp_eq fx 59 dX3_readHorizontal_46 (by decide) rfl (by omega) (by omega) (fun h_99 => ?_) (fun h_99 => ?_)
          ·
            refine v_iconst fx dX3_readHorizontal_59 rfl ?_
            exact v_zretE fx [(h0, ob 3 [.int (iI w), .ref r, .ref md, .ref dm, .ref t1, .ref t2, .ref t3, .ref td, .ref src]), (t1, ob 1 [.ref b1, .int d1]), (b1, aI g n1 f1), (t2, ob 1 [.ref b2, .int d2]), (b2, aI g n2 f2), (src, ob 0 [.ref ba, .int (iI cb), .int (iI p2__97), .int (iI tu)]), (ba, aB g n f), (r, ob 2 [.ref rs, .ref i2_81, .int (iI c)]), (rs, aI g 27 s2_83), (i2_81, aI g m2_82 g2_84), (td, ob 5 [.ref r, .int (iI w), .int (iI tb), .int (iI tn), .int (iI ta), .int (iI tk)])] [4, 5, 6, 7, 8, 9, 10, 0, 1, 2, 3] hr dX3_readHorizontal_60 (by first | rfl | exact nar_z _ (by omega)) rfl rfl ⟨i2_81, m2_82, s2_83, g2_84, e2_85, tn, ta, tk, 0, p2__97, rfl, rfl, (by first | exact hL2 | exact hp6), (by first | exact hR2 | exact hp7), (by first | omega | rfl | assumption), (by first | exact hi2 | exact hp9), (by first | omega | rfl | assumption), (by first | exact hk2 | exact fun _ _ => rfl), (by first | exact TI_keep hp6 (by omega) (by omega) hk2 hp13 | exact hp13), (by first | omega | rfl | assumption), (by exact Or.inl rfl), (by first | omega | rfl | assumption), (by first | omega | rfl | assumption)⟩
          ·
            refine v_iload_n fx 0 dX3_readHorizontal_49 rfl rfl ?_
            refine v_aload_n fx 3 dX3_readHorizontal_50 rfl rfl ?_
            refine v_get fx 4 0 inX3 k248 dX3_readHorizontal_51 rfl rfl (by decide) rfl rfl rfl ?_
            refine v_iload_n fx 2 dX3_readHorizontal_54 rfl rfl ?_
            refine v_isub fx (w - (q_1 + q_74)) dX3_readHorizontal_55 (by rfl) rfl ?_
            refine v_icmp_le fx 61 dX3_readHorizontal_56 (by decide) rfl (by omega) (by omega) (fun h_100 => ?_) (fun h_100 => ?_)
            ·
              refine v_iload_n fx 2 dX3_readHorizontal_61 rfl rfl ?_
              refine v_iload_n fx 0 dX3_readHorizontal_62 rfl rfl ?_
              refine v_iadd fx ((q_1 + q_74) + q_96) dX3_readHorizontal_63 (by rfl) rfl ?_
              refine v_istore_n fx [(1, .int (iI ((q_1 + q_74) + q_96))), (3, .int (iI q_96)), (2, .int (iI 1)), (0, .ref h0)] dX3_readHorizontal_64 (by decide) rfl rfl ?_
              refine v_aload_n fx 3 dX3_readHorizontal_65 rfl rfl ?_
              refine v_iload_n fx 0 dX3_readHorizontal_66 rfl rfl ?_
              refine v_callVE (As := [.int (iI ((q_1 + q_74) + q_96))]) (rest := []) fx [4, 0, 1, 2] [3, 5, 6, 7, 8, 9, 10] [(h0, ob 3 [.int (iI w), .ref r, .ref md, .ref dm, .ref t1, .ref t2, .ref t3, .ref td, .ref src]), (r, ob 2 [.ref rs, .ref i2_81, .int (iI c)]), (rs, aI g 27 s2_83), (i2_81, aI g m2_82 g2_84)] [(td, ob 5 [.ref r, .int (iI w), .int (iI tb), .int (iI tn), .int (iI ta), .int (iI tk)]), (t1, ob 1 [.ref b1, .int d1]), (b1, aI g n1 f1), (t2, ob 1 [.ref b2, .int d2]), (b2, aI g n2 f2), (src, ob 0 [.ref ba, .int (iI cb), .int (iI p2__97), .int (iI tu)]), (ba, aB g n f)] 1 0 (c_X3_turnAt l g h0 w r md dm t1 t2 t3 td src rs i2_81 m2_82 c F s2_83 g2_84 e2_85 ((q_1 + q_74) + q_96) (by first | exact hL2 | exact hp6) (by first | exact hR2 | exact hp7) (by first | omega | decide | assumption) (by first | exact hi2 | exact hp9) (by first | omega | decide | assumption) (by first | omega | decide | assumption) (by first | exact inc_mono hx2 (by omega) | exact inc_mono hp15 (by omega)) (by first | omega | decide | assumption)) dX3_readHorizontal_67 k848 k850 k16 k53 k851 ykX3_turnAt rfl rfl rfl rfl rfl rfl rfl rfl (nl rfl) ⟨nl rfl, nl rfl⟩ ⟨(by show kc_79 + 1 ≤ 5010; omega), (by show ks_80 + 330000 ≤ 660000; omega)⟩ rfl (fun v9 w9 kc_101 ks_102 hu => ?_)
              obtain ⟨i2_103, m2_104, s2_105, g2_106, e2_107, rfl, rfl, u_108, u_109, u_110, u_111, u_112, u_113, u_114⟩ := hu
              refine v_is (wn := [(td, ob 5 [.ref r, .int (iI w), .int (iI tb), .int (iI tn), .int (iI ta), .int (iI tk)]), (t1, ob 1 [.ref b1, .int d1]), (b1, aI g n1 f1), (t2, ob 1 [.ref b2, .int d2]), (b2, aI g n2 f2), (src, ob 0 [.ref ba, .int (iI cb), .int (iI p2__97), .int (iI tu)]), (ba, aB g n f), (h0, ob 3 [.int (iI w), .ref r, .ref md, .ref dm, .ref t1, .ref t2, .ref t3, .ref td, .ref src]), (r, ob 2 [.ref rs, .ref i2_103, .int (iI c)]), (rs, aI g 27 s2_105), (i2_103, aI g m2_104 g2_106)]) (cn := kc_79 + kc_101) (sn := ks_80 + ks_102) (sn2 := []) rfl rfl rfl rfl ?_
              have hL2 := u_108
              have hR2 := u_109
              have hi2 := u_111
              have hk2 : ∀ j : Nat, (j : Int) < F c.toNat → g2_106 j = fi j := by
                first | exact fun j hj => (u_113 j hj).trans (hk2 j hj) | exact u_113
              have hx2 := u_114
              refine v_iinc fx 2 (2) [(2, .int (iI 2)), (1, .int (iI ((q_1 + q_74) + q_96))), (3, .int (iI q_96)), (0, .ref h0)] dX3_readHorizontal_70 rfl (by omega) (by decide) rfl rfl ?_
              refine v_goto fx 10 dX3_readHorizontal_73 (by decide) ?_
              refine v_iload_n fx 0 dX3_readHorizontal_10 rfl rfl ?_
              refine v_iconst fx dX3_readHorizontal_11 rfl ?_
              refine v_icmp_ge fx 76 dX3_readHorizontal_12 (by decide) rfl (by omega) (by omega) (fun h_115 => ?_) (fun h0 => absurd h0 (by omega))
              refine v_aload_n fx 3 dX3_readHorizontal_76 rfl rfl ?_
              refine v_get fx 7 7 inX3 k255 dX3_readHorizontal_77 rfl rfl (by decide) rfl rfl rfl ?_
              refine v_iload_n fx 1 dX3_readHorizontal_80 rfl rfl ?_
              refine v_callV (As := [.int (iI ((q_1 + q_74) + q_96))]) (rest := []) fx [0, 8, 9, 10] [1, 2, 3, 4, 5, 6, 7] [(td, ob 5 [.ref r, .int (iI w), .int (iI tb), .int (iI tn), .int (iI ta), .int (iI tk)]), (r, ob 2 [.ref rs, .ref i2_103, .int (iI c)]), (rs, aI g 27 s2_105), (i2_103, aI g m2_104 g2_106)] [(t1, ob 1 [.ref b1, .int d1]), (b1, aI g n1 f1), (t2, ob 1 [.ref b2, .int d2]), (b2, aI g n2 f2), (src, ob 0 [.ref ba, .int (iI cb), .int (iI p2__97), .int (iI tu)]), (ba, aB g n f), (h0, ob 3 [.int (iI w), .ref r, .ref md, .ref dm, .ref t1, .ref t2, .ref t3, .ref td, .ref src])] 1 0 (c_X5_moveTo l g td r w tb tn ta tk rs i2_103 m2_104 c (fU F (c.toNat + 1) e2_107) s2_105 g2_106 ((q_1 + q_74) + q_96) (by exact hL2) (by exact RI_F hF.1 hR2) (by first | omega | decide | assumption) (by first | omega | decide | assumption) (by first | omega | decide | assumption) (by first | omega | decide | assumption)) dX3_readHorizontal_81 k863 k715 k716 k52 k717 ykX5_moveTo rfl rfl rfl rfl rfl rfl rfl rfl (nl rfl) ⟨nl rfl, nl rfl⟩ ⟨(by show (kc_79 + kc_101) + 0 ≤ 5010; omega), (by show (ks_80 + ks_102) + 0 ≤ 660000; omega)⟩ rfl (fun v9 w9 hu => ?_)
              obtain ⟨x2_116, rfl, rfl, u_117, u_118⟩ := hu
              refine v_is (wn := [(t1, ob 1 [.ref b1, .int d1]), (b1, aI g n1 f1), (t2, ob 1 [.ref b2, .int d2]), (b2, aI g n2 f2), (src, ob 0 [.ref ba, .int (iI cb), .int (iI p2__97), .int (iI tu)]), (ba, aB g n f), (h0, ob 3 [.int (iI w), .ref r, .ref md, .ref dm, .ref t1, .ref t2, .ref t3, .ref td, .ref src]), (td, ob 5 [.ref r, .int (iI w), .int (iI tb), .int (iI x2_116), .int (iI ((q_1 + q_74) + q_96)), .int (iI tk)]), (r, ob 2 [.ref rs, .ref i2_103, .int (iI c)]), (rs, aI g 27 s2_105), (i2_103, aI g m2_104 g2_106)]) (cn := kc_79 + kc_101) (sn := ks_80 + ks_102) (sn2 := []) rfl rfl rfl rfl ?_
              have hT2 := TI_F2 hF.1 (by omega) u_118
              refine v_iconst fx dX3_readHorizontal_84 rfl ?_
              exact v_zretE fx [(h0, ob 3 [.int (iI w), .ref r, .ref md, .ref dm, .ref t1, .ref t2, .ref t3, .ref td, .ref src]), (t1, ob 1 [.ref b1, .int d1]), (b1, aI g n1 f1), (t2, ob 1 [.ref b2, .int d2]), (b2, aI g n2 f2), (src, ob 0 [.ref ba, .int (iI cb), .int (iI p2__97), .int (iI tu)]), (ba, aB g n f), (r, ob 2 [.ref rs, .ref i2_103, .int (iI c)]), (rs, aI g 27 s2_105), (i2_103, aI g m2_104 g2_106), (td, ob 5 [.ref r, .int (iI w), .int (iI tb), .int (iI x2_116), .int (iI ((q_1 + q_74) + q_96)), .int (iI tk)])] [6, 0, 1, 2, 3, 4, 5, 8, 9, 10, 7] hr dX3_readHorizontal_85 (by first | rfl | exact nar_z _ (by omega)) rfl rfl ⟨i2_103, m2_104, s2_105, g2_106, e2_107, x2_116, ((q_1 + q_74) + q_96), tk, 1, p2__97, rfl, rfl, (by exact hL2), (by exact hR2), (by first | omega | rfl | assumption), (by exact hi2), (by first | omega | rfl | assumption), (by exact hk2), (by exact hT2), (by first | omega | rfl | assumption), (by exact Or.inr (inc_mono hx2 (by omega))), (by first | omega | rfl | assumption), (by first | omega | rfl | assumption)⟩
            ·
              refine v_iconst fx dX3_readHorizontal_59 rfl ?_
              exact v_zretE fx [(h0, ob 3 [.int (iI w), .ref r, .ref md, .ref dm, .ref t1, .ref t2, .ref t3, .ref td, .ref src]), (t1, ob 1 [.ref b1, .int d1]), (b1, aI g n1 f1), (t2, ob 1 [.ref b2, .int d2]), (b2, aI g n2 f2), (src, ob 0 [.ref ba, .int (iI cb), .int (iI p2__97), .int (iI tu)]), (ba, aB g n f), (r, ob 2 [.ref rs, .ref i2_81, .int (iI c)]), (rs, aI g 27 s2_83), (i2_81, aI g m2_82 g2_84), (td, ob 5 [.ref r, .int (iI w), .int (iI tb), .int (iI tn), .int (iI ta), .int (iI tk)])] [4, 5, 6, 7, 8, 9, 10, 0, 1, 2, 3] hr dX3_readHorizontal_60 (by first | rfl | exact nar_z _ (by omega)) rfl rfl ⟨i2_81, m2_82, s2_83, g2_84, e2_85, tn, ta, tk, 0, p2__97, rfl, rfl, (by first | exact hL2 | exact hp6), (by first | exact hR2 | exact hp7), (by first | omega | rfl | assumption), (by first | exact hi2 | exact hp9), (by first | omega | rfl | assumption), (by first | exact hk2 | exact fun _ _ => rfl), (by first | exact TI_keep hp6 (by omega) (by omega) hk2 hp13 | exact hp13), (by first | omega | rfl | assumption), (by exact Or.inl rfl), (by first | omega | rfl | assumption), (by first | omega | rfl | assumption)⟩
        ·
          refine v_iconst fx dX3_readHorizontal_35 rfl ?_
          refine v_goto fx 40 dX3_readHorizontal_36 (by decide) ?_
          refine v_callV (As := [.int (iI 1)]) (rest := []) fx [6, 0, 1, 2, 3, 4, 5] [7, 8, 9, 10] [(h0, ob 3 [.int (iI w), .ref r, .ref md, .ref dm, .ref t1, .ref t2, .ref t3, .ref td, .ref src]), (t1, ob 1 [.ref b1, .int d1]), (b1, aI g n1 f1), (t2, ob 1 [.ref b2, .int d2]), (b2, aI g n2 f2), (src, ob 0 [.ref ba, .int (iI cb), .int (iI p2__75), .int (iI tu)]), (ba, aB g n f)] [(r, ob 2 [.ref rs, .ref i2_81, .int (iI c)]), (rs, aI g 27 s2_83), (i2_81, aI g m2_82 g2_84), (td, ob 5 [.ref r, .int (iI w), .int (iI tb), .int (iI tn), .int (iI ta), .int (iI tk)])] 1 0 (c_X3_readRun l g h0 w r md dm t1 t2 t3 td b1 n1 b2 n2 f1 f2 d1 d2 src ba n f cb p2__75 tu 1 (by first | omega | decide | assumption) (by exact hp1) (by first | omega | decide | assumption) (by first | omega | decide | assumption) (by exact hp4) (by exact hp5) (by first | omega | decide | assumption)) dX3_readHorizontal_40 k844 k846 k15 k53 k847 ykX3_readRun rfl rfl rfl rfl rfl rfl rfl rfl (nl rfl) ⟨nl rfl, nl rfl⟩ ⟨(by show kc_79 + 0 ≤ 5010; omega), (by show ks_80 + 0 ≤ 660000; omega)⟩ rfl (fun v9 w9 hu => ?_)
          obtain ⟨q_119, p2__120, rfl, rfl, u_121⟩ := hu
          refine v_is (wn := [(r, ob 2 [.ref rs, .ref i2_81, .int (iI c)]), (rs, aI g 27 s2_83), (i2_81, aI g m2_82 g2_84), (td, ob 5 [.ref r, .int (iI w), .int (iI tb), .int (iI tn), .int (iI ta), .int (iI tk)]), (h0, ob 3 [.int (iI w), .ref r, .ref md, .ref dm, .ref t1, .ref t2, .ref t3, .ref td, .ref src]), (t1, ob 1 [.ref b1, .int d1]), (b1, aI g n1 f1), (t2, ob 1 [.ref b2, .int d2]), (b2, aI g n2 f2), (src, ob 0 [.ref ba, .int (iI cb), .int (iI p2__120), .int (iI tu)]), (ba, aB g n f)]) (cn := kc_79) (sn := ks_80) (sn2 := [.int (iI q_119)]) rfl rfl rfl rfl ?_
          refine v_istore_n fx [(3, .int (iI q_119)), (2, .int (iI 1)), (1, .int (iI (q_1 + q_74))), (0, .ref h0)] dX3_readHorizontal_43 (by decide) rfl rfl ?_
          refine v_iload_n fx 0 dX3_readHorizontal_44 rfl rfl ?_
          refine v_iconst fx dX3_readHorizontal_45 rfl ?_
          refine v_icmp_eq fx 59 dX3_readHorizontal_46 (by decide) rfl (by omega) (by omega) (fun h_122 => ?_) (fun h_122 => ?_)
          ·
            refine v_iconst fx dX3_readHorizontal_59 rfl ?_
            exact v_zretE fx [(h0, ob 3 [.int (iI w), .ref r, .ref md, .ref dm, .ref t1, .ref t2, .ref t3, .ref td, .ref src]), (t1, ob 1 [.ref b1, .int d1]), (b1, aI g n1 f1), (t2, ob 1 [.ref b2, .int d2]), (b2, aI g n2 f2), (src, ob 0 [.ref ba, .int (iI cb), .int (iI p2__120), .int (iI tu)]), (ba, aB g n f), (r, ob 2 [.ref rs, .ref i2_81, .int (iI c)]), (rs, aI g 27 s2_83), (i2_81, aI g m2_82 g2_84), (td, ob 5 [.ref r, .int (iI w), .int (iI tb), .int (iI tn), .int (iI ta), .int (iI tk)])] [4, 5, 6, 7, 8, 9, 10, 0, 1, 2, 3] hr dX3_readHorizontal_60 (by first | rfl | exact nar_z _ (by omega)) rfl rfl ⟨i2_81, m2_82, s2_83, g2_84, e2_85, tn, ta, tk, 0, p2__120, rfl, rfl, (by first | exact hL2 | exact hp6), (by first | exact hR2 | exact hp7), (by first | omega | rfl | assumption), (by first | exact hi2 | exact hp9), (by first | omega | rfl | assumption), (by first | exact hk2 | exact fun _ _ => rfl), (by first | exact TI_keep hp6 (by omega) (by omega) hk2 hp13 | exact hp13), (by first | omega | rfl | assumption), (by exact Or.inl rfl), (by first | omega | rfl | assumption), (by first | omega | rfl | assumption)⟩
          ·
            refine v_iload_n fx 0 dX3_readHorizontal_49 rfl rfl ?_
            refine v_aload_n fx 3 dX3_readHorizontal_50 rfl rfl ?_
            refine v_get fx 4 0 inX3 k248 dX3_readHorizontal_51 rfl rfl (by decide) rfl rfl rfl ?_
            refine v_iload_n fx 2 dX3_readHorizontal_54 rfl rfl ?_
            refine v_isub fx (w - (q_1 + q_74)) dX3_readHorizontal_55 (by rfl) rfl ?_
            refine v_icmp_le fx 61 dX3_readHorizontal_56 (by decide) rfl (by omega) (by omega) (fun h_123 => ?_) (fun h_123 => ?_)
            ·
              refine v_iload_n fx 2 dX3_readHorizontal_61 rfl rfl ?_
              refine v_iload_n fx 0 dX3_readHorizontal_62 rfl rfl ?_
              refine v_iadd fx ((q_1 + q_74) + q_119) dX3_readHorizontal_63 (by rfl) rfl ?_
              refine v_istore_n fx [(1, .int (iI ((q_1 + q_74) + q_119))), (3, .int (iI q_119)), (2, .int (iI 1)), (0, .ref h0)] dX3_readHorizontal_64 (by decide) rfl rfl ?_
              refine v_aload_n fx 3 dX3_readHorizontal_65 rfl rfl ?_
              refine v_iload_n fx 0 dX3_readHorizontal_66 rfl rfl ?_
              refine v_callVE (As := [.int (iI ((q_1 + q_74) + q_119))]) (rest := []) fx [4, 0, 1, 2] [3, 5, 6, 7, 8, 9, 10] [(h0, ob 3 [.int (iI w), .ref r, .ref md, .ref dm, .ref t1, .ref t2, .ref t3, .ref td, .ref src]), (r, ob 2 [.ref rs, .ref i2_81, .int (iI c)]), (rs, aI g 27 s2_83), (i2_81, aI g m2_82 g2_84)] [(td, ob 5 [.ref r, .int (iI w), .int (iI tb), .int (iI tn), .int (iI ta), .int (iI tk)]), (t1, ob 1 [.ref b1, .int d1]), (b1, aI g n1 f1), (t2, ob 1 [.ref b2, .int d2]), (b2, aI g n2 f2), (src, ob 0 [.ref ba, .int (iI cb), .int (iI p2__120), .int (iI tu)]), (ba, aB g n f)] 1 0 (c_X3_turnAt l g h0 w r md dm t1 t2 t3 td src rs i2_81 m2_82 c F s2_83 g2_84 e2_85 ((q_1 + q_74) + q_119) (by first | exact hL2 | exact hp6) (by first | exact hR2 | exact hp7) (by first | omega | decide | assumption) (by first | exact hi2 | exact hp9) (by first | omega | decide | assumption) (by first | omega | decide | assumption) (by first | exact inc_mono hx2 (by omega) | exact inc_mono hp15 (by omega)) (by first | omega | decide | assumption)) dX3_readHorizontal_67 k848 k850 k16 k53 k851 ykX3_turnAt rfl rfl rfl rfl rfl rfl rfl rfl (nl rfl) ⟨nl rfl, nl rfl⟩ ⟨(by show kc_79 + 1 ≤ 5010; omega), (by show ks_80 + 330000 ≤ 660000; omega)⟩ rfl (fun v9 w9 kc_124 ks_125 hu => ?_)
              obtain ⟨i2_126, m2_127, s2_128, g2_129, e2_130, rfl, rfl, u_131, u_132, u_133, u_134, u_135, u_136, u_137⟩ := hu
              refine v_is (wn := [(td, ob 5 [.ref r, .int (iI w), .int (iI tb), .int (iI tn), .int (iI ta), .int (iI tk)]), (t1, ob 1 [.ref b1, .int d1]), (b1, aI g n1 f1), (t2, ob 1 [.ref b2, .int d2]), (b2, aI g n2 f2), (src, ob 0 [.ref ba, .int (iI cb), .int (iI p2__120), .int (iI tu)]), (ba, aB g n f), (h0, ob 3 [.int (iI w), .ref r, .ref md, .ref dm, .ref t1, .ref t2, .ref t3, .ref td, .ref src]), (r, ob 2 [.ref rs, .ref i2_126, .int (iI c)]), (rs, aI g 27 s2_128), (i2_126, aI g m2_127 g2_129)]) (cn := kc_79 + kc_124) (sn := ks_80 + ks_125) (sn2 := []) rfl rfl rfl rfl ?_
              have hL2 := u_131
              have hR2 := u_132
              have hi2 := u_134
              have hk2 : ∀ j : Nat, (j : Int) < F c.toNat → g2_129 j = fi j := by
                first | exact fun j hj => (u_136 j hj).trans (hk2 j hj) | exact u_136
              have hx2 := u_137
              refine v_iinc fx 2 (2) [(2, .int (iI 2)), (1, .int (iI ((q_1 + q_74) + q_119))), (3, .int (iI q_119)), (0, .ref h0)] dX3_readHorizontal_70 rfl (by omega) (by decide) rfl rfl ?_
              refine v_goto fx 10 dX3_readHorizontal_73 (by decide) ?_
              refine v_iload_n fx 0 dX3_readHorizontal_10 rfl rfl ?_
              refine v_iconst fx dX3_readHorizontal_11 rfl ?_
              refine v_icmp_ge fx 76 dX3_readHorizontal_12 (by decide) rfl (by omega) (by omega) (fun h_138 => ?_) (fun h0 => absurd h0 (by omega))
              refine v_aload_n fx 3 dX3_readHorizontal_76 rfl rfl ?_
              refine v_get fx 7 7 inX3 k255 dX3_readHorizontal_77 rfl rfl (by decide) rfl rfl rfl ?_
              refine v_iload_n fx 1 dX3_readHorizontal_80 rfl rfl ?_
              refine v_callV (As := [.int (iI ((q_1 + q_74) + q_119))]) (rest := []) fx [0, 8, 9, 10] [1, 2, 3, 4, 5, 6, 7] [(td, ob 5 [.ref r, .int (iI w), .int (iI tb), .int (iI tn), .int (iI ta), .int (iI tk)]), (r, ob 2 [.ref rs, .ref i2_126, .int (iI c)]), (rs, aI g 27 s2_128), (i2_126, aI g m2_127 g2_129)] [(t1, ob 1 [.ref b1, .int d1]), (b1, aI g n1 f1), (t2, ob 1 [.ref b2, .int d2]), (b2, aI g n2 f2), (src, ob 0 [.ref ba, .int (iI cb), .int (iI p2__120), .int (iI tu)]), (ba, aB g n f), (h0, ob 3 [.int (iI w), .ref r, .ref md, .ref dm, .ref t1, .ref t2, .ref t3, .ref td, .ref src])] 1 0 (c_X5_moveTo l g td r w tb tn ta tk rs i2_126 m2_127 c (fU F (c.toNat + 1) e2_130) s2_128 g2_129 ((q_1 + q_74) + q_119) (by exact hL2) (by exact RI_F hF.1 hR2) (by first | omega | decide | assumption) (by first | omega | decide | assumption) (by first | omega | decide | assumption) (by first | omega | decide | assumption)) dX3_readHorizontal_81 k863 k715 k716 k52 k717 ykX5_moveTo rfl rfl rfl rfl rfl rfl rfl rfl (nl rfl) ⟨nl rfl, nl rfl⟩ ⟨(by show (kc_79 + kc_124) + 0 ≤ 5010; omega), (by show (ks_80 + ks_125) + 0 ≤ 660000; omega)⟩ rfl (fun v9 w9 hu => ?_)
              obtain ⟨x2_139, rfl, rfl, u_140, u_141⟩ := hu
              refine v_is (wn := [(t1, ob 1 [.ref b1, .int d1]), (b1, aI g n1 f1), (t2, ob 1 [.ref b2, .int d2]), (b2, aI g n2 f2), (src, ob 0 [.ref ba, .int (iI cb), .int (iI p2__120), .int (iI tu)]), (ba, aB g n f), (h0, ob 3 [.int (iI w), .ref r, .ref md, .ref dm, .ref t1, .ref t2, .ref t3, .ref td, .ref src]), (td, ob 5 [.ref r, .int (iI w), .int (iI tb), .int (iI x2_139), .int (iI ((q_1 + q_74) + q_119)), .int (iI tk)]), (r, ob 2 [.ref rs, .ref i2_126, .int (iI c)]), (rs, aI g 27 s2_128), (i2_126, aI g m2_127 g2_129)]) (cn := kc_79 + kc_124) (sn := ks_80 + ks_125) (sn2 := []) rfl rfl rfl rfl ?_
              have hT2 := TI_F2 hF.1 (by omega) u_141
              refine v_iconst fx dX3_readHorizontal_84 rfl ?_
              exact v_zretE fx [(h0, ob 3 [.int (iI w), .ref r, .ref md, .ref dm, .ref t1, .ref t2, .ref t3, .ref td, .ref src]), (t1, ob 1 [.ref b1, .int d1]), (b1, aI g n1 f1), (t2, ob 1 [.ref b2, .int d2]), (b2, aI g n2 f2), (src, ob 0 [.ref ba, .int (iI cb), .int (iI p2__120), .int (iI tu)]), (ba, aB g n f), (r, ob 2 [.ref rs, .ref i2_126, .int (iI c)]), (rs, aI g 27 s2_128), (i2_126, aI g m2_127 g2_129), (td, ob 5 [.ref r, .int (iI w), .int (iI tb), .int (iI x2_139), .int (iI ((q_1 + q_74) + q_119)), .int (iI tk)])] [6, 0, 1, 2, 3, 4, 5, 8, 9, 10, 7] hr dX3_readHorizontal_85 (by first | rfl | exact nar_z _ (by omega)) rfl rfl ⟨i2_126, m2_127, s2_128, g2_129, e2_130, x2_139, ((q_1 + q_74) + q_119), tk, 1, p2__120, rfl, rfl, (by exact hL2), (by exact hR2), (by first | omega | rfl | assumption), (by exact hi2), (by first | omega | rfl | assumption), (by exact hk2), (by exact hT2), (by first | omega | rfl | assumption), (by exact Or.inr (inc_mono hx2 (by omega))), (by first | omega | rfl | assumption), (by first | omega | rfl | assumption)⟩
            ·
              refine v_iconst fx dX3_readHorizontal_59 rfl ?_
              exact v_zretE fx [(h0, ob 3 [.int (iI w), .ref r, .ref md, .ref dm, .ref t1, .ref t2, .ref t3, .ref td, .ref src]), (t1, ob 1 [.ref b1, .int d1]), (b1, aI g n1 f1), (t2, ob 1 [.ref b2, .int d2]), (b2, aI g n2 f2), (src, ob 0 [.ref ba, .int (iI cb), .int (iI p2__120), .int (iI tu)]), (ba, aB g n f), (r, ob 2 [.ref rs, .ref i2_81, .int (iI c)]), (rs, aI g 27 s2_83), (i2_81, aI g m2_82 g2_84), (td, ob 5 [.ref r, .int (iI w), .int (iI tb), .int (iI tn), .int (iI ta), .int (iI tk)])] [4, 5, 6, 7, 8, 9, 10, 0, 1, 2, 3] hr dX3_readHorizontal_60 (by first | rfl | exact nar_z _ (by omega)) rfl rfl ⟨i2_81, m2_82, s2_83, g2_84, e2_85, tn, ta, tk, 0, p2__120, rfl, rfl, (by first | exact hL2 | exact hp6), (by first | exact hR2 | exact hp7), (by first | omega | rfl | assumption), (by first | exact hi2 | exact hp9), (by first | omega | rfl | assumption), (by first | exact hk2 | exact fun _ _ => rfl), (by first | exact TI_keep hp6 (by omega) (by omega) hk2 hp13 | exact hp13), (by first | omega | rfl | assumption), (by exact Or.inl rfl), (by first | omega | rfl | assumption), (by first | omega | rfl | assumption)⟩
      ·
        refine v_iconst fx dX3_readHorizontal_59 rfl ?_
        exact v_zretE fx [(h0, ob 3 [.int (iI w), .ref r, .ref md, .ref dm, .ref t1, .ref t2, .ref t3, .ref td, .ref src]), (t1, ob 1 [.ref b1, .int d1]), (b1, aI g n1 f1), (t2, ob 1 [.ref b2, .int d2]), (b2, aI g n2 f2), (src, ob 0 [.ref ba, .int (iI cb), .int (iI p2__75), .int (iI tu)]), (ba, aB g n f), (r, ob 2 [.ref rs, .ref it, .int (iI c)]), (rs, aI g 27 fs), (it, aI g m fi), (td, ob 5 [.ref r, .int (iI w), .int (iI tb), .int (iI tn), .int (iI ta), .int (iI tk)])] [4, 5, 6, 7, 8, 9, 10, 0, 1, 2, 3] hr dX3_readHorizontal_60 (by first | rfl | exact nar_z _ (by omega)) rfl rfl ⟨it, m, fs, fi, e, tn, ta, tk, 0, p2__75, rfl, rfl, (by first | exact hL2 | exact hp6), (by first | exact hR2 | exact hp7), (by first | omega | rfl | assumption), (by first | exact hi2 | exact hp9), (by first | omega | rfl | assumption), (by first | exact hk2 | exact fun _ _ => rfl), (by first | exact TI_keep hp6 (by omega) (by omega) hk2 hp13 | exact hp13), (by first | omega | rfl | assumption), (by exact Or.inl rfl), (by first | omega | rfl | assumption), (by first | omega | rfl | assumption)⟩
