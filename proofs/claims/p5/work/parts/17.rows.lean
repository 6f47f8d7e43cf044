/-! THE READER: rows are closed -/
theorem RI_up {w c : Int} {F : Nat → Int} {e : Int} {fs : Nat → Int32} {m : Nat} {fi : Nat → Int32} (hL : LB c (fU F (c.toNat + 1) e) fs m) (h : RI w c F fi) (ho : inc fi (F c.toNat) e w) : RI w (c + 1) (fU F (c.toNat + 1) e) fi := by
  have hc := hL.1
  intro l hl
  by_cases q : (l : Int) < c
  · rw [fU_c (by omega), fU_c (by omega)]; exact h l q
  · rw [show l = c.toNat by omega, fU_b, fU_s]; exact ho
theorem LB_up1 {c : Int} {F : Nat → Int} {e : Int} {fs s2 : Nat → Int32} {m : Nat} (hL : LB c (fU F (c.toNat + 1) e) fs m) (hc : c < 25) (q : s2 = upd fs (c + 1 + 1).toNat (fs (c + 1).toNat)) : LB (c + 1) (fU (fU F (c.toNat + 1) e) ((c + 1).toNat + 1) ((fU F (c.toNat + 1) e) (c + 1).toNat)) s2 m := by
  have h0 := hL.1
  have h := LB_close hL hc
  rw [← q] at h
  rw [show (c + 1).toNat + 1 = c.toNat + 2 by omega, show (c + 1).toNat = c.toNat + 1 by omega]
  exact h
theorem ML_up {cm : Int} {G : Nat → Int} {ge : Int} (h0 : 0 ≤ cm) (h : ML cm G) (hg : ge ≤ G cm.toNat + 3004) : ML (cm + 1) (fU G (cm.toNat + 1) ge) := by
  intro l hl
  by_cases q : (l : Int) < cm
  · rw [fU_c (by omega), fU_c (by omega)]; exact h l q
  · rw [show l = cm.toNat by omega, fU_b, fU_s]; exact hg
theorem LB_em {c : Int} {F : Nat → Int} {e : Int} {fs s2 : Nat → Int32} {m : Nat} (hL : LB c (fU F (c.toNat + 1) e) fs m) (q : s2 = upd fs (c + 1).toNat (fs c.toNat)) : LB c (fU F (c.toNat + 1) (F c.toNat)) s2 m := by
  have h := LB_empty hL
  rw [fU_fU, fU_b, ← q] at h
  exact h
theorem itm_F {F : Nat → Int} {fi : Nat → Int32} {c e d x k : Int} (h0 : 0 ≤ c) (hx : 0 ≤ x ∧ x < c) (hk : 0 ≤ k ∧ k < F (x.toNat + 1) - F x.toNat) : itm (fU F (c.toNat + 1) e) fi c d x k = vl fi (F x.toNat + k) := by
  rw [itm_in (by rw [fU_c (by omega), fU_c (by omega)]; omega), fU_c (by omega)]
theorem dX2_appendAll_0 : decode cX2_appendAll 0 = .ok (.aload_n 0, 1) := by decide +kernel
theorem dX2_appendAll_1 : decode cX2_appendAll 1 = .ok (.iload_n 1, 1) := by decide +kernel
theorem dX2_appendAll_2 : decode cX2_appendAll 2 = .ok (.invokevirtual 32, 3) := by decide +kernel
theorem dX2_appendAll_5 : decode cX2_appendAll 5 = .ok (.istore_n 2, 1) := by decide +kernel
theorem dX2_appendAll_6 : decode cX2_appendAll 6 = .ok (.iconst 0, 1) := by decide +kernel
theorem dX2_appendAll_7 : decode cX2_appendAll 7 = .ok (.istore_n 3, 1) := by decide +kernel
theorem dX2_appendAll_8 : decode cX2_appendAll 8 = .ok (.iload_n 3, 1) := by decide +kernel
theorem dX2_appendAll_9 : decode cX2_appendAll 9 = .ok (.iload_n 2, 1) := by decide +kernel
theorem dX2_appendAll_10 : decode cX2_appendAll 10 = .ok (.if_icmp .ge 20, 3) := by decide +kernel
theorem dX2_appendAll_13 : decode cX2_appendAll 13 = .ok (.aload_n 0, 1) := by decide +kernel
theorem dX2_appendAll_14 : decode cX2_appendAll 14 = .ok (.aload_n 0, 1) := by decide +kernel
theorem dX2_appendAll_15 : decode cX2_appendAll 15 = .ok (.iload_n 1, 1) := by decide +kernel
theorem dX2_appendAll_16 : decode cX2_appendAll 16 = .ok (.iload_n 3, 1) := by decide +kernel
theorem dX2_appendAll_17 : decode cX2_appendAll 17 = .ok (.iconst (-1), 1) := by decide +kernel
theorem dX2_appendAll_18 : decode cX2_appendAll 18 = .ok (.invokevirtual 28, 3) := by decide +kernel
theorem dX2_appendAll_21 : decode cX2_appendAll 21 = .ok (.invokevirtual 39, 3) := by decide +kernel
theorem dX2_appendAll_24 : decode cX2_appendAll 24 = .ok (.iinc 3 1, 3) := by decide +kernel
theorem dX2_appendAll_27 : decode cX2_appendAll 27 = .ok (.goto (-19), 3) := by decide +kernel
theorem dX2_appendAll_30 : decode cX2_appendAll 30 = .ok (.return_, 1) := by decide +kernel
abbrev po_c_X2_appendAll (g : GG) (r : Nat) (rs : Nat) (it : Nat) (m : Nat) (w : Int) (c : Int) (F : Nat → Int) (fs : Nat → Int32) (fi : Nat → Int32) (e : Int) (x : Int) : Option Value → va_W → Nat → Nat → Prop := fun v8 w8 kc8 ks8 => ∃ i2 : Nat, ∃ m2 : Nat, ∃ s2 : Nat → Int32, ∃ g2 : Nat → Int32, ∃ e2 : Int, v8 = none ∧ w8 = [(r, ob 2 [.ref rs, .ref i2, .int (iI c)]), (rs, aI g 27 s2), (i2, aI g m2 g2)] ∧ (LB c (fU F (c.toNat + 1) e2) s2 m2) ∧ (RI w c F g2) ∧ (F c.toNat ≤ e2) ∧ (inc g2 (F c.toNat) e2 w) ∧ (ks8 + 2 * m ≤ 2 * m2 ∧ 64 * kc8 ≤ ks8 ∧ m ≤ m2 ∧ m2 ≤ 160000) ∧ (∀ j : Nat, (j : Int) < F c.toNat → g2 j = fi j)
set_option maxHeartbeats 4000000 in
set_option maxRecDepth 100000 in
theorem c_X2_appendAll (l : Launch) (g : GG) (r : Nat) (rs : Nat) (it : Nat) (m : Nat) (w : Int) (c : Int) (F : Nat → Int) (fs : Nat → Int32) (fi : Nat → Int32) (e : Int) (x : Int) (hp0 : LB c (fU F (c.toNat + 1) e) fs m) (hp1 : RI w c F fi) (hp2 : F c.toNat ≤ e) (hp3 : inc fi (F c.toNat) e w) (hp4 : c ≤ 24 ∧ m ≤ 160000) (hp5 : 1 ≤ w ∧ w ≤ 3000) (hp6 : e = F c.toNat) (hp7 : x = c - 1) : CtE l g yX2_appendAll (wM yX2_appendAll cX2_appendAll 4 none) (rmD 3 5010 660000) [.ref r, .int (iI x)] [(r, ob 2 [.ref rs, .ref it, .int (iI c)]), (rs, aI g 27 fs), (it, aI g m fi)] (po_c_X2_appendAll g r rs it m w c F fs fi e x) := by
  refine CtE_of (by decide +kernel) (Nat.le_of_ble_eq_true rfl) ?_
  intro p9 e9 s9 m9 ag9 bl9 mt9 c9 A9 fx hr hnm
  have hF := LB_F hp0
  have hFc := RI_lenF hp0 hp1 (by omega)
  refine v_aload_n fx 0 dX2_appendAll_0 rfl rfl ?_
  refine v_iload_n fx 1 dX2_appendAll_1 rfl rfl ?_
  refine v_callV (As := [.int (iI x)]) (rest := []) fx [0, 1] [2] [(r, ob 2 [.ref rs, .ref it, .int (iI c)]), (rs, aI g 27 fs)] [(it, aI g m fi)] 1 0 (c_X2_length l g r rs it m c (fU F (c.toNat + 1) e) fs fi x (by exact hp0) (by first | omega | decide | assumption)) dX2_appendAll_2 k861 k719 k720 k49 k721 ykX2_length rfl rfl rfl rfl rfl rfl rfl rfl (nl rfl) ⟨nl rfl, nl rfl⟩ ⟨(nl rfl), (nl rfl)⟩ rfl (fun v9 w9 hu => ?_)
  obtain ⟨ln, rfl, rfl, u_1, u_2⟩ := hu
  refine v_is (wn := [(it, aI g m fi), (r, ob 2 [.ref rs, .ref it, .int (iI c)]), (rs, aI g 27 fs)]) (cn := 0) (sn := 0) (sn2 := [.int (iI ln)]) rfl rfl rfl rfl ?_
  have hln : (0 ≤ x ∧ ln = F (x.toNat + 1) - F x.toNat) ∨ (x < 0 ∧ ln = 0) := by
    rcases u_1 with ⟨g1, g2, g3⟩ | ⟨g1, g2⟩
    · left; rw [fU_c (by omega), fU_c (by omega)] at g3; exact ⟨g1, g3⟩
    · right; omega
  clear u_1
  have hl3 : ln ≤ 3000 := by
    rcases hln with ⟨g1, g2⟩ | ⟨g1, g2⟩
    · have := inc_len (RI_at hp1 (x := x) (by omega)) (by omega); omega
    · omega
  refine v_istore_n fx [(2, .int (iI ln)), (0, .ref r), (1, .int (iI x))] dX2_appendAll_5 (by decide) rfl rfl ?_
  refine v_iconst fx dX2_appendAll_6 rfl ?_
  refine v_istore_n fx [(3, .int (iI 0)), (2, .int (iI ln)), (0, .ref r), (1, .int (iI x))] dX2_appendAll_7 (by decide) rfl rfl ?_
  have L8 : ∀ (N : Nat) (k : Int) (t9 : Nat) (m9_ : Nat) (s9_ : Nat → Int32) (g9 : Nat → Int32) (e9_ : Int) (cl : Nat) (sl : Nat), (LB c (fU F (c.toNat + 1) e9_) s9_ m9_) → (RI w c F g9) → (F c.toNat ≤ e9_) → (inc g9 (F c.toNat) e9_ w) → (m9_ ≤ 160000 ∧ m ≤ m9_ ∧ sl + 2 * m ≤ 2 * m9_ ∧ 64 * cl ≤ sl) → (∀ j : Nat, (j : Int) < F c.toNat → g9 j = fi j) → (0 ≤ k ∧ k ≤ ln ∧ e9_ = F c.toNat + k) → (k = ln ∨ inc g9 (F c.toNat) e9_ (vl fi (F x.toNat + k))) → ((ln - k).toNat) < N → V p9 l e9 (rmD 3 5010 660000) s9 m9 ag9 bl9 mt9 c9 4 g A9 (MQE bl9 (cQE g (po_c_X2_appendAll g r rs it m w c F fs fi e x) A9) ag9 s9 A9) [(r, ob 2 [.ref rs, .ref t9, .int (iI c)]), (rs, aI g 27 s9_), (t9, aI g m9_ g9)] cl sl [(0, .ref r), (1, .int (iI x)), (2, .int (iI ln)), (3, .int (iI k))] 8 [] := by
    intro N
    induction N with
    | zero => intro k t9 m9_ s9_ g9 e9_ cl sl hi8_0 hi8_1 hi8_2 hi8_3 hi8_4 hi8_5 hi8_6 hi8_7 hN; exact absurd hN (Nat.not_lt_zero _)
    | succ N ihL8 =>
      intro k t9 m9_ s9_ g9 e9_ cl sl hi8_0 hi8_1 hi8_2 hi8_3 hi8_4 hi8_5 hi8_6 hi8_7 hN8
      refine v_iload_n fx 3 dX2_appendAll_8 rfl rfl ?_
      refine v_iload_n fx 2 dX2_appendAll_9 rfl rfl ?_
      refine v_icmp_ge fx 30 dX2_appendAll_10 (by decide) rfl (by omega) (by omega) (fun h_3 => ?_) (fun h_3 => ?_)
      ·
        exact v_vretE fx [(r, ob 2 [.ref rs, .ref t9, .int (iI c)]), (rs, aI g 27 s9_), (t9, aI g m9_ g9)] [0, 1, 2] hr dX2_appendAll_30 rfl rfl ⟨t9, m9_, s9_, g9, e9_, rfl, rfl, (by exact hi8_0), (by exact hi8_1), (by first | omega | rfl | assumption), (by exact hi8_3), (by first | omega | rfl | assumption), (by exact hi8_5)⟩
      ·
        have hx0 : 0 ≤ x := by omega
        have hxl : ln = F (x.toNat + 1) - F x.toNat := by omega
        have hRx := RI_at hp1 (x := x) (by omega)
        have hup := LB_up hi8_0 (c.toNat - (x.toNat + 1)) (x.toNat + 1) (by omega)
        rw [show x.toNat + 1 + (c.toNat - (x.toNat + 1)) = c.toNat by omega, fU_b, fU_c (by omega)] at hup
        have hps := LB_pos hi8_0 (x := x) (by omega)
        rw [fU_c (by omega)] at hps
        have hvv : vl g9 (F x.toNat + k) = vl fi (F x.toNat + k) := by unfold vl; rw [hi8_5 _ (by omega)]
        have hvb := (hRx (F x.toNat + k) (by omega) (by omega)).1
        have hinc := (hi8_7).resolve_left (by omega)
        refine v_aload_n fx 0 dX2_appendAll_13 rfl rfl ?_
        refine v_aload_n fx 0 dX2_appendAll_14 rfl rfl ?_
        refine v_iload_n fx 1 dX2_appendAll_15 rfl rfl ?_
        refine v_iload_n fx 3 dX2_appendAll_16 rfl rfl ?_
        refine v_iconst fx dX2_appendAll_17 rfl ?_
        refine v_callV (As := [.int (iI x), .int (iI k), .int (iI (-1))]) (rest := [.ref r]) fx [0, 1, 2] [] [(r, ob 2 [.ref rs, .ref t9, .int (iI c)]), (rs, aI g 27 s9_), (t9, aI g m9_ g9)] [] 3 0 (c_X2_item l g r rs t9 m9_ c (fU F (c.toNat + 1) e9_) s9_ g9 x k (-1) (by exact hi8_0) (by first | omega | decide | assumption) (by first | omega | decide | assumption) (by first | omega | decide | assumption)) dX2_appendAll_18 k856 k686 k687 k49 k688 ykX2_item rfl rfl rfl rfl rfl rfl rfl rfl (nl rfl) ⟨nl rfl, nl rfl⟩ ⟨(by show cl + 0 ≤ 5010; omega), (by show sl + 0 ≤ 660000; omega)⟩ rfl (fun v9 w9 hu => ?_)
        obtain ⟨v, rfl, rfl, u_4, u_5⟩ := hu
        refine v_is (wn := [(r, ob 2 [.ref rs, .ref t9, .int (iI c)]), (rs, aI g 27 s9_), (t9, aI g m9_ g9)]) (cn := cl) (sn := sl) (sn2 := [.int (iI v), .ref r]) rfl rfl rfl rfl ?_
        have hv : v = vl fi (F x.toNat + k) := by rw [u_4, itm_F hF.1 (by omega) (by omega), hvv]
        refine v_callVE (As := [.int (iI v)]) (rest := []) fx [0, 1, 2] [] [(r, ob 2 [.ref rs, .ref t9, .int (iI c)]), (rs, aI g 27 s9_), (t9, aI g m9_ g9)] [] 1 0 (c_X2_append l g r rs t9 m9_ c (fU F (c.toNat + 1) e9_) s9_ g9 (iI v) (by exact hi8_0) (by rw [fU_s]; omega) (by omega)) dX2_appendAll_21 k885 k335 k336 k49 k337 ykX2_append rfl rfl rfl rfl rfl rfl rfl rfl (nl rfl) ⟨nl rfl, nl rfl⟩ ⟨(by show cl + 1 ≤ 5010; omega), (by show sl + (2 * m9_) ≤ 660000; omega)⟩ rfl (fun v9 w9 kc_6 ks_7 hu => ?_)
        obtain ⟨ia, ma, sa, fa, rfl, rfl, u_8, u_9, u_10, u_11⟩ := hu
        refine v_is (wn := [(r, ob 2 [.ref rs, .ref ia, .int (iI c)]), (rs, aI g 27 sa), (ia, aI g ma fa)]) (cn := cl + kc_6) (sn := sl + ks_7) (sn2 := []) rfl rfl rfl rfl ?_
        simp only [fU_s, fU_fU] at u_8 u_10 u_11
        have hLa := u_8
        have hka := u_10
        have hRa := RI_keepF hi8_0 hi8_1 u_10
        have hia := inc_app (p2 := v + 1) hinc (by omega) u_10 u_11 (by omega)
        have hnx : k + 1 = ln ∨ inc fa (F c.toNat) (e9_ + 1) (vl fi (F x.toNat + (k + 1))) := by
          by_cases h : k + 1 = ln
          · exact Or.inl h
          · right
            have := (hRx (F x.toNat + (k + 1)) (by omega) (by omega)).2 (F x.toNat + k) (by omega) (by omega)
            exact inc_mono hia (by omega)
        refine v_iinc fx 3 (k + 1) [(3, .int (iI (k + 1))), (0, .ref r), (1, .int (iI x)), (2, .int (iI ln))] dX2_appendAll_24 rfl (by omega) (by decide) rfl rfl ?_
        refine v_goto fx 8 dX2_appendAll_27 (by decide) ?_
        refine v_lv [1, 2, 3, 0] [(0, .ref r), (1, .int (iI x)), (2, .int (iI ln)), (3, .int (iI (k + 1)))] rfl ?_
        exact ihL8 (k + 1) ia ma sa fa (e9_ + 1) (cl + kc_6) (sl + ks_7) (by exact hLa) (by exact hRa) (by omega) (by exact inc_mono hia (by omega)) (by omega) (by exact fun j hj => (hka j (by omega)).trans (hi8_5 j hj)) (by omega) (by exact hnx) (by omega)
  refine v_ws [1, 2, 0] [(r, ob 2 [.ref rs, .ref it, .int (iI c)]), (rs, aI g 27 fs), (it, aI g m fi)] rfl rfl ?_
  refine v_lv [2, 3, 1, 0] [(0, .ref r), (1, .int (iI x)), (2, .int (iI ln)), (3, .int (iI 0))] rfl ?_
  exact L8 _ 0 it m fs fi e 0 0 (by exact hp0) (by exact hp1) (by omega) (by exact hp3) (by omega) (by exact fun _ _ => rfl) (by omega) (by right; rw [hp6]; exact inc_none) (Nat.lt_succ_self _)
theorem dX3_closeRow_0 : decode cX3_closeRow 0 = .ok (.aload_n 0, 1) := by decide +kernel
theorem dX3_closeRow_1 : decode cX3_closeRow 1 = .ok (.getfield 12, 3) := by decide +kernel
theorem dX3_closeRow_4 : decode cX3_closeRow 4 = .ok (.invokevirtual 123, 3) := by decide +kernel
theorem dX3_closeRow_7 : decode cX3_closeRow 7 = .ok (.istore_n 3, 1) := by decide +kernel
theorem dX3_closeRow_8 : decode cX3_closeRow 8 = .ok (.iload_n 1, 1) := by decide +kernel
theorem dX3_closeRow_9 : decode cX3_closeRow 9 = .ok (.ifCond .eq 31, 3) := by decide +kernel
theorem dX3_closeRow_12 : decode cX3_closeRow 12 = .ok (.aload_n 0, 1) := by decide +kernel
theorem dX3_closeRow_13 : decode cX3_closeRow 13 = .ok (.getfield 12, 3) := by decide +kernel
theorem dX3_closeRow_16 : decode cX3_closeRow 16 = .ok (.invokevirtual 126, 3) := by decide +kernel
theorem dX3_closeRow_19 : decode cX3_closeRow 19 = .ok (.aload_n 0, 1) := by decide +kernel
theorem dX3_closeRow_20 : decode cX3_closeRow 20 = .ok (.getfield 18, 3) := by decide +kernel
theorem dX3_closeRow_23 : decode cX3_closeRow 23 = .ok (.invokevirtual 126, 3) := by decide +kernel
theorem dX3_closeRow_26 : decode cX3_closeRow 26 = .ok (.iload_n 2, 1) := by decide +kernel
theorem dX3_closeRow_27 : decode cX3_closeRow 27 = .ok (.ifCond .eq 13, 3) := by decide +kernel
theorem dX3_closeRow_30 : decode cX3_closeRow 30 = .ok (.aload_n 0, 1) := by decide +kernel
theorem dX3_closeRow_31 : decode cX3_closeRow 31 = .ok (.getfield 12, 3) := by decide +kernel
theorem dX3_closeRow_34 : decode cX3_closeRow 34 = .ok (.iload_n 3, 1) := by decide +kernel
theorem dX3_closeRow_35 : decode cX3_closeRow 35 = .ok (.iconst 1, 1) := by decide +kernel
theorem dX3_closeRow_36 : decode cX3_closeRow 36 = .ok (.isub, 1) := by decide +kernel
theorem dX3_closeRow_37 : decode cX3_closeRow 37 = .ok (.invokevirtual 129, 3) := by decide +kernel
theorem dX3_closeRow_40 : decode cX3_closeRow 40 = .ok (.iload_n 3, 1) := by decide +kernel
theorem dX3_closeRow_41 : decode cX3_closeRow 41 = .ok (.aload_n 0, 1) := by decide +kernel
theorem dX3_closeRow_42 : decode cX3_closeRow 42 = .ok (.getfield 21, 3) := by decide +kernel
theorem dX3_closeRow_45 : decode cX3_closeRow 45 = .ok (.arraylength, 1) := by decide +kernel
theorem dX3_closeRow_46 : decode cX3_closeRow 46 = .ok (.if_icmp .ge 10, 3) := by decide +kernel
theorem dX3_closeRow_49 : decode cX3_closeRow 49 = .ok (.aload_n 0, 1) := by decide +kernel
theorem dX3_closeRow_50 : decode cX3_closeRow 50 = .ok (.getfield 21, 3) := by decide +kernel
theorem dX3_closeRow_53 : decode cX3_closeRow 53 = .ok (.iload_n 3, 1) := by decide +kernel
theorem dX3_closeRow_54 : decode cX3_closeRow 54 = .ok (.iload_n 1, 1) := by decide +kernel
theorem dX3_closeRow_55 : decode cX3_closeRow 55 = .ok (.bastore, 1) := by decide +kernel
theorem dX3_closeRow_56 : decode cX3_closeRow 56 = .ok (.aload_n 0, 1) := by decide +kernel
theorem dX3_closeRow_57 : decode cX3_closeRow 57 = .ok (.getfield 12, 3) := by decide +kernel
theorem dX3_closeRow_60 : decode cX3_closeRow 60 = .ok (.invokevirtual 132, 3) := by decide +kernel
theorem dX3_closeRow_63 : decode cX3_closeRow 63 = .ok (.aload_n 0, 1) := by decide +kernel
theorem dX3_closeRow_64 : decode cX3_closeRow 64 = .ok (.getfield 18, 3) := by decide +kernel
theorem dX3_closeRow_67 : decode cX3_closeRow 67 = .ok (.invokevirtual 132, 3) := by decide +kernel
theorem dX3_closeRow_70 : decode cX3_closeRow 70 = .ok (.return_, 1) := by decide +kernel
abbrev po_c_X3_closeRow (g : GG) (h0 : Nat) (w : Int) (r : Nat) (md : Nat) (dm : Nat) (t1 : Nat) (t2 : Nat) (t3 : Nat) (td : Nat) (src : Nat) (rs : Nat) (it : Nat) (m : Nat) (c : Int) (F : Nat → Int) (fs : Nat → Int32) (fi : Nat → Int32) (ms : Nat) (mi : Nat) (mm : Nat) (cm : Int) (G : Nat → Int) (gs : Nat → Int32) (gi : Nat → Int32) (ge : Int) (fz : Nat → Int32) (e : Int) (dg : Int) (rp : Int) : Option Value → va_W → Nat → Nat → Prop := fun v8 w8 kc8 ks8 => ∃ i2 : Nat, ∃ m2 : Nat, ∃ s2 : Nat → Int32, ∃ g2 : Nat → Int32, ∃ F2 : Nat → Int, ∃ x2 : Nat → Int32, ∃ G2 : Nat → Int, ∃ fz2 : Nat → Int32, v8 = none ∧ w8 = [(h0, ob 3 [.int (iI w), .ref r, .ref md, .ref dm, .ref t1, .ref t2, .ref t3, .ref td, .ref src]), (r, ob 2 [.ref rs, .ref i2, .int (iI (c + 1))]), (rs, aI g 27 s2), (i2, aI g m2 g2), (md, ob 2 [.ref ms, .ref mi, .int (iI (cm + 1))]), (ms, aI g 27 x2), (mi, aI g mm gi), (dm, aZ g 25 fz2)] ∧ (LB (c + 1) (fU F2 ((c + 1).toNat + 1) (F2 (c + 1).toNat)) s2 m2) ∧ (RI w (c + 1) F2 g2) ∧ (LB (cm + 1) (fU G2 ((cm + 1).toNat + 1) (G2 (cm + 1).toNat)) x2 mm) ∧ (ML (cm + 1) G2) ∧ (ks8 + 2 * m ≤ 2 * m2 ∧ 64 * kc8 ≤ ks8 ∧ m ≤ m2 ∧ m2 ≤ 160000)
set_option maxHeartbeats 4000000 in
set_option maxRecDepth 100000 in
theorem c_X3_closeRow (l : Launch) (g : GG) (h0 : Nat) (w : Int) (r : Nat) (md : Nat) (dm : Nat) (t1 : Nat) (t2 : Nat) (t3 : Nat) (td : Nat) (src : Nat) (rs : Nat) (it : Nat) (m : Nat) (c : Int) (F : Nat → Int) (fs : Nat → Int32) (fi : Nat → Int32) (ms : Nat) (mi : Nat) (mm : Nat) (cm : Int) (G : Nat → Int) (gs : Nat → Int32) (gi : Nat → Int32) (ge : Int) (fz : Nat → Int32) (e : Int) (dg : Int) (rp : Int) (hp0 : LB c (fU F (c.toNat + 1) e) fs m) (hp1 : RI w c F fi) (hp2 : F c.toNat ≤ e) (hp3 : inc fi (F c.toNat) e w) (hp4 : c ≤ 24 ∧ m ≤ 160000) (hp5 : 1 ≤ w ∧ w ≤ 3000) (hp6 : LB cm (fU G (cm.toNat + 1) ge) gs mm) (hp7 : ML cm G) (hp8 : cm ≤ 24 ∧ mm ≤ 160000) (hp9 : G cm.toNat ≤ ge ∧ ge ≤ G cm.toNat + 3004) (hp10 : 0 ≤ dg ∧ dg ≤ 1) (hp11 : 0 ≤ rp ∧ rp ≤ 1) : CtE l g yX3_closeRow (wM yX3_closeRow cX3_closeRow 4 none) (rmD 4 5010 660000) [.ref h0, .int (iI dg), .int (iI rp)] [(h0, ob 3 [.int (iI w), .ref r, .ref md, .ref dm, .ref t1, .ref t2, .ref t3, .ref td, .ref src]), (r, ob 2 [.ref rs, .ref it, .int (iI c)]), (rs, aI g 27 fs), (it, aI g m fi), (md, ob 2 [.ref ms, .ref mi, .int (iI cm)]), (ms, aI g 27 gs), (mi, aI g mm gi), (dm, aZ g 25 fz)] (po_c_X3_closeRow g h0 w r md dm t1 t2 t3 td src rs it m c F fs fi ms mi mm cm G gs gi ge fz e dg rp) := by
  refine CtE_of (by decide +kernel) (Nat.le_of_ble_eq_true rfl) ?_
  intro p9 e9 s9 m9 ag9 bl9 mt9 c9 A9 fx hr hnm
  have hF := LB_F hp0
  have hFM := LB_F hp6
  refine v_aload_n fx 0 dX3_closeRow_0 rfl rfl ?_
  refine v_get fx 0 1 inX3 k249 dX3_closeRow_1 rfl rfl (by decide) rfl rfl rfl ?_
  refine v_callV (As := []) (rest := []) fx [1] [0, 2, 3, 4, 5, 6, 7] [(r, ob 2 [.ref rs, .ref it, .int (iI c)])] [(h0, ob 3 [.int (iI w), .ref r, .ref md, .ref dm, .ref t1, .ref t2, .ref t3, .ref td, .ref src]), (rs, aI g 27 fs), (it, aI g m fi), (md, ob 2 [.ref ms, .ref mi, .int (iI cm)]), (ms, aI g 27 gs), (mi, aI g mm gi), (dm, aZ g 25 fz)] 0 0 (c_X2_count l g r rs it c ) dX3_closeRow_4 k818 k323 k324 k49 k325 ykX2_count rfl rfl rfl rfl rfl rfl rfl rfl (nl rfl) ⟨nl rfl, nl rfl⟩ ⟨(nl rfl), (nl rfl)⟩ rfl (fun v9 w9 hu => ?_)
  obtain ⟨rfl, rfl⟩ := hu
  refine v_is (wn := [(h0, ob 3 [.int (iI w), .ref r, .ref md, .ref dm, .ref t1, .ref t2, .ref t3, .ref td, .ref src]), (rs, aI g 27 fs), (it, aI g m fi), (md, ob 2 [.ref ms, .ref mi, .int (iI cm)]), (ms, aI g 27 gs), (mi, aI g mm gi), (dm, aZ g 25 fz), (r, ob 2 [.ref rs, .ref it, .int (iI c)])]) (cn := 0) (sn := 0) (sn2 := [.int (iI c)]) rfl rfl rfl rfl ?_
  refine v_istore_n fx [(3, .int (iI c)), (0, .ref h0), (1, .int (iI dg)), (2, .int (iI rp))] dX3_closeRow_7 (by decide) rfl rfl ?_
  refine v_iload_n fx 2 dX3_closeRow_8 rfl rfl ?_
  refine v_if_eq fx 40 dX3_closeRow_9 (by decide) rfl (by omega) (fun h_1 => ?_) (fun h_1 => ?_)
  ·
    refine v_iload_n fx 0 dX3_closeRow_40 rfl rfl ?_
    refine v_aload_n fx 1 dX3_closeRow_41 rfl rfl ?_
    refine v_get fx 0 3 inX3 k251 dX3_closeRow_42 rfl rfl (by decide) rfl rfl rfl ?_
    refine v_alen fx 6 2 25 dX3_closeRow_45 rfl rfl rfl rfl ?_
    refine v_icmp_ge fx 56 dX3_closeRow_46 (by decide) rfl (by omega) (by omega) (fun h0 => absurd h0 (by omega)) (fun h_2 => ?_)
    refine v_aload_n fx 1 dX3_closeRow_49 rfl rfl ?_
    refine v_get fx 0 3 inX3 k251 dX3_closeRow_50 rfl rfl (by decide) rfl rfl rfl ?_
    refine v_iload_n fx 0 dX3_closeRow_53 rfl rfl ?_
    refine v_iload_n fx 2 dX3_closeRow_54 rfl rfl ?_
    obtain ⟨f_3, ef_3⟩ : ∃ f9 : Nat → Int32, upd fz (c).toNat (vp_nar .boolean (iI dg)) = f9 := ⟨_, rfl⟩
    refine v_zast fx 6 f_3 [(h0, ob 3 [.int (iI w), .ref r, .ref md, .ref dm, .ref t1, .ref t2, .ref t3, .ref td, .ref src]), (rs, aI g 27 fs), (it, aI g m fi), (md, ob 2 [.ref ms, .ref mi, .int (iI cm)]), (ms, aI g 27 gs), (mi, aI g mm gi), (dm, aZ g 25 f_3), (r, ob 2 [.ref rs, .ref it, .int (iI c)])] dX3_closeRow_55 rfl (by omega) (by omega) ef_3 rfl rfl ?_
    refine v_aload_n fx 1 dX3_closeRow_56 rfl rfl ?_
    refine v_get fx 0 1 inX3 k249 dX3_closeRow_57 rfl rfl (by decide) rfl rfl rfl ?_
    refine v_callV (As := []) (rest := []) fx [7, 1] [0, 2, 3, 4, 5, 6] [(r, ob 2 [.ref rs, .ref it, .int (iI c)]), (rs, aI g 27 fs)] [(h0, ob 3 [.int (iI w), .ref r, .ref md, .ref dm, .ref t1, .ref t2, .ref t3, .ref td, .ref src]), (it, aI g m fi), (md, ob 2 [.ref ms, .ref mi, .int (iI cm)]), (ms, aI g 27 gs), (mi, aI g mm gi), (dm, aZ g 25 f_3)] 0 0 (c_X2_close l g r rs it m c (fU F (c.toNat + 1) e) fs fi (by first | exact hL2 | exact hL1 | exact hp0) (by first | omega | decide | assumption)) dX3_closeRow_60 k886 k340 k341 k49 k342 ykX2_close rfl rfl rfl rfl rfl rfl rfl rfl (nl rfl) ⟨nl rfl, nl rfl⟩ ⟨(nl rfl), (nl rfl)⟩ rfl (fun v9 w9 hu => ?_)
    obtain ⟨sr, rfl, rfl, u_4⟩ := hu
    refine v_is (wn := [(h0, ob 3 [.int (iI w), .ref r, .ref md, .ref dm, .ref t1, .ref t2, .ref t3, .ref td, .ref src]), (it, aI g m fi), (md, ob 2 [.ref ms, .ref mi, .int (iI cm)]), (ms, aI g 27 gs), (mi, aI g mm gi), (dm, aZ g 25 f_3), (r, ob 2 [.ref rs, .ref it, .int (iI (c + 1))]), (rs, aI g 27 sr)]) (cn := 0) (sn := 0) (sn2 := []) rfl rfl rfl rfl ?_
    have hL3 := LB_up1 (F := F) (e := e) (by first | exact hL2 | exact hL1 | exact hp0) (by omega) u_4
    have hR3 := RI_up (F := F) (e := e) (by first | exact hL2 | exact hL1 | exact hp0) (by first | exact hR2 | exact hp1) (by first | exact hi2 | exact hi1 | exact hp3)
    refine v_aload_n fx 1 dX3_closeRow_63 rfl rfl ?_
    refine v_get fx 0 2 inX3 k250 dX3_closeRow_64 rfl rfl (by decide) rfl rfl rfl ?_
    refine v_callV (As := []) (rest := []) fx [2, 3] [0, 1, 4, 5, 6, 7] [(md, ob 2 [.ref ms, .ref mi, .int (iI cm)]), (ms, aI g 27 gs)] [(h0, ob 3 [.int (iI w), .ref r, .ref md, .ref dm, .ref t1, .ref t2, .ref t3, .ref td, .ref src]), (it, aI g m fi), (mi, aI g mm gi), (dm, aZ g 25 f_3), (r, ob 2 [.ref rs, .ref it, .int (iI (c + 1))]), (rs, aI g 27 sr)] 0 0 (c_X2_close l g md ms mi mm cm (fU G (cm.toNat + 1) ge) gs gi (by first | exact hM1 | exact hp6) (by first | omega | decide | assumption)) dX3_closeRow_67 k886 k340 k341 k49 k342 ykX2_close rfl rfl rfl rfl rfl rfl rfl rfl (nl rfl) ⟨nl rfl, nl rfl⟩ ⟨(nl rfl), (nl rfl)⟩ rfl (fun v9 w9 hu => ?_)
    obtain ⟨sq, rfl, rfl, u_5⟩ := hu
    refine v_is (wn := [(h0, ob 3 [.int (iI w), .ref r, .ref md, .ref dm, .ref t1, .ref t2, .ref t3, .ref td, .ref src]), (it, aI g m fi), (mi, aI g mm gi), (dm, aZ g 25 f_3), (r, ob 2 [.ref rs, .ref it, .int (iI (c + 1))]), (rs, aI g 27 sr), (md, ob 2 [.ref ms, .ref mi, .int (iI (cm + 1))]), (ms, aI g 27 sq)]) (cn := 0) (sn := 0) (sn2 := []) rfl rfl rfl rfl ?_
    have hM3 := LB_up1 (F := G) (e := ge) (by first | exact hM1 | exact hp6) (by omega) u_5
    have hN3 := ML_up (ge := ge) (by omega) hp7 (by omega)
    exact v_vretE fx [(h0, ob 3 [.int (iI w), .ref r, .ref md, .ref dm, .ref t1, .ref t2, .ref t3, .ref td, .ref src]), (r, ob 2 [.ref rs, .ref it, .int (iI (c + 1))]), (rs, aI g 27 sr), (it, aI g m fi), (md, ob 2 [.ref ms, .ref mi, .int (iI (cm + 1))]), (ms, aI g 27 sq), (mi, aI g mm gi), (dm, aZ g 25 f_3)] [0, 4, 5, 1, 6, 7, 2, 3] hr dX3_closeRow_70 rfl rfl ⟨it, m, sr, fi, (fU F (c.toNat + 1) e), sq, (fU G (cm.toNat + 1) ge), f_3, rfl, rfl, (by exact hL3), (by exact hR3), (by exact hM3), (by exact hN3), (by first | omega | rfl | assumption)⟩
  ·
    refine v_aload_n fx 1 dX3_closeRow_12 rfl rfl ?_
    refine v_get fx 0 1 inX3 k249 dX3_closeRow_13 rfl rfl (by decide) rfl rfl rfl ?_
    refine v_callV (As := []) (rest := []) fx [7, 1] [0, 2, 3, 4, 5, 6] [(r, ob 2 [.ref rs, .ref it, .int (iI c)]), (rs, aI g 27 fs)] [(h0, ob 3 [.int (iI w), .ref r, .ref md, .ref dm, .ref t1, .ref t2, .ref t3, .ref td, .ref src]), (it, aI g m fi), (md, ob 2 [.ref ms, .ref mi, .int (iI cm)]), (ms, aI g 27 gs), (mi, aI g mm gi), (dm, aZ g 25 fz)] 0 0 (c_X2_emptyOpen l g r rs it c fs (by first | omega | decide | assumption)) dX3_closeRow_16 k880 k344 k345 k49 k346 ykX2_emptyOpen rfl rfl rfl rfl rfl rfl rfl rfl (nl rfl) ⟨nl rfl, nl rfl⟩ ⟨(nl rfl), (nl rfl)⟩ rfl (fun v9 w9 hu => ?_)
    obtain ⟨se, rfl, rfl, u_6⟩ := hu
    refine v_is (wn := [(h0, ob 3 [.int (iI w), .ref r, .ref md, .ref dm, .ref t1, .ref t2, .ref t3, .ref td, .ref src]), (it, aI g m fi), (md, ob 2 [.ref ms, .ref mi, .int (iI cm)]), (ms, aI g 27 gs), (mi, aI g mm gi), (dm, aZ g 25 fz), (r, ob 2 [.ref rs, .ref it, .int (iI c)]), (rs, aI g 27 se)]) (cn := 0) (sn := 0) (sn2 := []) rfl rfl rfl rfl ?_
    have hL1 := LB_em hp0 u_6
    have hi1 : inc fi (F c.toNat) (F c.toNat) w := inc_none
    refine v_aload_n fx 1 dX3_closeRow_19 rfl rfl ?_
    refine v_get fx 0 2 inX3 k250 dX3_closeRow_20 rfl rfl (by decide) rfl rfl rfl ?_
    refine v_callV (As := []) (rest := []) fx [2, 3] [0, 1, 4, 5, 6, 7] [(md, ob 2 [.ref ms, .ref mi, .int (iI cm)]), (ms, aI g 27 gs)] [(h0, ob 3 [.int (iI w), .ref r, .ref md, .ref dm, .ref t1, .ref t2, .ref t3, .ref td, .ref src]), (it, aI g m fi), (mi, aI g mm gi), (dm, aZ g 25 fz), (r, ob 2 [.ref rs, .ref it, .int (iI c)]), (rs, aI g 27 se)] 0 0 (c_X2_emptyOpen l g md ms mi cm gs (by first | omega | decide | assumption)) dX3_closeRow_23 k880 k344 k345 k49 k346 ykX2_emptyOpen rfl rfl rfl rfl rfl rfl rfl rfl (nl rfl) ⟨nl rfl, nl rfl⟩ ⟨(nl rfl), (nl rfl)⟩ rfl (fun v9 w9 hu => ?_)
    obtain ⟨sm, rfl, rfl, u_7⟩ := hu
    refine v_is (wn := [(h0, ob 3 [.int (iI w), .ref r, .ref md, .ref dm, .ref t1, .ref t2, .ref t3, .ref td, .ref src]), (it, aI g m fi), (mi, aI g mm gi), (dm, aZ g 25 fz), (r, ob 2 [.ref rs, .ref it, .int (iI c)]), (rs, aI g 27 se), (md, ob 2 [.ref ms, .ref mi, .int (iI cm)]), (ms, aI g 27 sm)]) (cn := 0) (sn := 0) (sn2 := []) rfl rfl rfl rfl ?_
    have hM1 := LB_em hp6 u_7
    refine v_iload_n fx 3 dX3_closeRow_26 rfl rfl ?_
    refine v_if_eq fx 40 dX3_closeRow_27 (by decide) rfl (by omega) (fun h_8 => ?_) (fun h_8 => ?_)
    ·
      refine v_iload_n fx 0 dX3_closeRow_40 rfl rfl ?_
      refine v_aload_n fx 1 dX3_closeRow_41 rfl rfl ?_
      refine v_get fx 0 3 inX3 k251 dX3_closeRow_42 rfl rfl (by decide) rfl rfl rfl ?_
      refine v_alen fx 3 2 25 dX3_closeRow_45 rfl rfl rfl rfl ?_
      refine v_icmp_ge fx 56 dX3_closeRow_46 (by decide) rfl (by omega) (by omega) (fun h0 => absurd h0 (by omega)) (fun h_9 => ?_)
      refine v_aload_n fx 1 dX3_closeRow_49 rfl rfl ?_
      refine v_get fx 0 3 inX3 k251 dX3_closeRow_50 rfl rfl (by decide) rfl rfl rfl ?_
      refine v_iload_n fx 0 dX3_closeRow_53 rfl rfl ?_
      refine v_iload_n fx 2 dX3_closeRow_54 rfl rfl ?_
      obtain ⟨f_10, ef_10⟩ : ∃ f9 : Nat → Int32, upd fz (c).toNat (vp_nar .boolean (iI dg)) = f9 := ⟨_, rfl⟩
      refine v_zast fx 3 f_10 [(h0, ob 3 [.int (iI w), .ref r, .ref md, .ref dm, .ref t1, .ref t2, .ref t3, .ref td, .ref src]), (it, aI g m fi), (mi, aI g mm gi), (dm, aZ g 25 f_10), (r, ob 2 [.ref rs, .ref it, .int (iI c)]), (rs, aI g 27 se), (md, ob 2 [.ref ms, .ref mi, .int (iI cm)]), (ms, aI g 27 sm)] dX3_closeRow_55 rfl (by omega) (by omega) ef_10 rfl rfl ?_
      refine v_aload_n fx 1 dX3_closeRow_56 rfl rfl ?_
      refine v_get fx 0 1 inX3 k249 dX3_closeRow_57 rfl rfl (by decide) rfl rfl rfl ?_
      refine v_callV (As := []) (rest := []) fx [4, 5] [0, 1, 2, 3, 6, 7] [(r, ob 2 [.ref rs, .ref it, .int (iI c)]), (rs, aI g 27 se)] [(h0, ob 3 [.int (iI w), .ref r, .ref md, .ref dm, .ref t1, .ref t2, .ref t3, .ref td, .ref src]), (it, aI g m fi), (mi, aI g mm gi), (dm, aZ g 25 f_10), (md, ob 2 [.ref ms, .ref mi, .int (iI cm)]), (ms, aI g 27 sm)] 0 0 (c_X2_close l g r rs it m c (fU F (c.toNat + 1) (F c.toNat)) se fi (by first | exact hL2 | exact hL1 | exact hp0) (by first | omega | decide | assumption)) dX3_closeRow_60 k886 k340 k341 k49 k342 ykX2_close rfl rfl rfl rfl rfl rfl rfl rfl (nl rfl) ⟨nl rfl, nl rfl⟩ ⟨(nl rfl), (nl rfl)⟩ rfl (fun v9 w9 hu => ?_)
      obtain ⟨sr, rfl, rfl, u_11⟩ := hu
      refine v_is (wn := [(h0, ob 3 [.int (iI w), .ref r, .ref md, .ref dm, .ref t1, .ref t2, .ref t3, .ref td, .ref src]), (it, aI g m fi), (mi, aI g mm gi), (dm, aZ g 25 f_10), (md, ob 2 [.ref ms, .ref mi, .int (iI cm)]), (ms, aI g 27 sm), (r, ob 2 [.ref rs, .ref it, .int (iI (c + 1))]), (rs, aI g 27 sr)]) (cn := 0) (sn := 0) (sn2 := []) rfl rfl rfl rfl ?_
      have hL3 := LB_up1 (F := F) (e := (F c.toNat)) (by first | exact hL2 | exact hL1 | exact hp0) (by omega) u_11
      have hR3 := RI_up (F := F) (e := (F c.toNat)) (by first | exact hL2 | exact hL1 | exact hp0) (by first | exact hR2 | exact hp1) (by first | exact hi2 | exact hi1 | exact hp3)
      refine v_aload_n fx 1 dX3_closeRow_63 rfl rfl ?_
      refine v_get fx 0 2 inX3 k250 dX3_closeRow_64 rfl rfl (by decide) rfl rfl rfl ?_
      refine v_callV (As := []) (rest := []) fx [4, 5] [0, 1, 2, 3, 6, 7] [(md, ob 2 [.ref ms, .ref mi, .int (iI cm)]), (ms, aI g 27 sm)] [(h0, ob 3 [.int (iI w), .ref r, .ref md, .ref dm, .ref t1, .ref t2, .ref t3, .ref td, .ref src]), (it, aI g m fi), (mi, aI g mm gi), (dm, aZ g 25 f_10), (r, ob 2 [.ref rs, .ref it, .int (iI (c + 1))]), (rs, aI g 27 sr)] 0 0 (c_X2_close l g md ms mi mm cm (fU G (cm.toNat + 1) (G cm.toNat)) sm gi (by first | exact hM1 | exact hp6) (by first | omega | decide | assumption)) dX3_closeRow_67 k886 k340 k341 k49 k342 ykX2_close rfl rfl rfl rfl rfl rfl rfl rfl (nl rfl) ⟨nl rfl, nl rfl⟩ ⟨(nl rfl), (nl rfl)⟩ rfl (fun v9 w9 hu => ?_)
      obtain ⟨sq, rfl, rfl, u_12⟩ := hu
      refine v_is (wn := [(h0, ob 3 [.int (iI w), .ref r, .ref md, .ref dm, .ref t1, .ref t2, .ref t3, .ref td, .ref src]), (it, aI g m fi), (mi, aI g mm gi), (dm, aZ g 25 f_10), (r, ob 2 [.ref rs, .ref it, .int (iI (c + 1))]), (rs, aI g 27 sr), (md, ob 2 [.ref ms, .ref mi, .int (iI (cm + 1))]), (ms, aI g 27 sq)]) (cn := 0) (sn := 0) (sn2 := []) rfl rfl rfl rfl ?_
      have hM3 := LB_up1 (F := G) (e := (G cm.toNat)) (by first | exact hM1 | exact hp6) (by omega) u_12
      have hN3 := ML_up (ge := (G cm.toNat)) (by omega) hp7 (by omega)
      exact v_vretE fx [(h0, ob 3 [.int (iI w), .ref r, .ref md, .ref dm, .ref t1, .ref t2, .ref t3, .ref td, .ref src]), (r, ob 2 [.ref rs, .ref it, .int (iI (c + 1))]), (rs, aI g 27 sr), (it, aI g m fi), (md, ob 2 [.ref ms, .ref mi, .int (iI (cm + 1))]), (ms, aI g 27 sq), (mi, aI g mm gi), (dm, aZ g 25 f_10)] [0, 4, 5, 1, 6, 7, 2, 3] hr dX3_closeRow_70 rfl rfl ⟨it, m, sr, fi, (fU F (c.toNat + 1) (F c.toNat)), sq, (fU G (cm.toNat + 1) (G cm.toNat)), f_10, rfl, rfl, (by exact hL3), (by exact hR3), (by exact hM3), (by exact hN3), (by first | omega | rfl | assumption)⟩
    ·
      refine v_aload_n fx 1 dX3_closeRow_30 rfl rfl ?_
      refine v_get fx 0 1 inX3 k249 dX3_closeRow_31 rfl rfl (by decide) rfl rfl rfl ?_
      refine v_iload_n fx 0 dX3_closeRow_34 rfl rfl ?_
      refine v_iconst fx dX3_closeRow_35 rfl ?_
      refine v_isub fx (c - 1) dX3_closeRow_36 (by rfl) rfl ?_
      refine v_callVE (As := [.int (iI (c - 1))]) (rest := []) fx [4, 5, 1] [0, 2, 3, 6, 7] [(r, ob 2 [.ref rs, .ref it, .int (iI c)]), (rs, aI g 27 se), (it, aI g m fi)] [(h0, ob 3 [.int (iI w), .ref r, .ref md, .ref dm, .ref t1, .ref t2, .ref t3, .ref td, .ref src]), (mi, aI g mm gi), (dm, aZ g 25 fz), (md, ob 2 [.ref ms, .ref mi, .int (iI cm)]), (ms, aI g 27 sm)] 1 0 (c_X2_appendAll l g r rs it m w c F se fi (F c.toNat) (c - 1) (by exact hL1) (by exact hp1) (by first | omega | decide | assumption) (by exact hi1) (by first | omega | decide | assumption) (by first | omega | decide | assumption) (by first | omega | decide | assumption) (by first | omega | decide | assumption)) dX3_closeRow_37 k881 k882 k883 k49 k884 ykX2_appendAll rfl rfl rfl rfl rfl rfl rfl rfl (nl rfl) ⟨nl rfl, nl rfl⟩ ⟨(nl rfl), (nl rfl)⟩ rfl (fun v9 w9 kc_13 ks_14 hu => ?_)
      obtain ⟨i2_15, m2_16, s2_17, g2_18, e2_19, rfl, rfl, u_20, u_21, u_22, u_23, u_24, u_25⟩ := hu
      refine v_is (wn := [(h0, ob 3 [.int (iI w), .ref r, .ref md, .ref dm, .ref t1, .ref t2, .ref t3, .ref td, .ref src]), (mi, aI g mm gi), (dm, aZ g 25 fz), (md, ob 2 [.ref ms, .ref mi, .int (iI cm)]), (ms, aI g 27 sm), (r, ob 2 [.ref rs, .ref i2_15, .int (iI c)]), (rs, aI g 27 s2_17), (i2_15, aI g m2_16 g2_18)]) (cn := kc_13) (sn := ks_14) (sn2 := []) rfl (Nat.zero_add _) (Nat.zero_add _) rfl ?_
      have hL2 := u_20
      have hR2 := u_21
      have hi2 := u_23
      refine v_iload_n fx 0 dX3_closeRow_40 rfl rfl ?_
      refine v_aload_n fx 1 dX3_closeRow_41 rfl rfl ?_
      refine v_get fx 0 3 inX3 k251 dX3_closeRow_42 rfl rfl (by decide) rfl rfl rfl ?_
      refine v_alen fx 2 2 25 dX3_closeRow_45 rfl rfl rfl rfl ?_
      refine v_icmp_ge fx 56 dX3_closeRow_46 (by decide) rfl (by omega) (by omega) (fun h0 => absurd h0 (by omega)) (fun h_26 => ?_)
      refine v_aload_n fx 1 dX3_closeRow_49 rfl rfl ?_
      refine v_get fx 0 3 inX3 k251 dX3_closeRow_50 rfl rfl (by decide) rfl rfl rfl ?_
      refine v_iload_n fx 0 dX3_closeRow_53 rfl rfl ?_
      refine v_iload_n fx 2 dX3_closeRow_54 rfl rfl ?_
      obtain ⟨f_27, ef_27⟩ : ∃ f9 : Nat → Int32, upd fz (c).toNat (vp_nar .boolean (iI dg)) = f9 := ⟨_, rfl⟩
      refine v_zast fx 2 f_27 [(h0, ob 3 [.int (iI w), .ref r, .ref md, .ref dm, .ref t1, .ref t2, .ref t3, .ref td, .ref src]), (mi, aI g mm gi), (dm, aZ g 25 f_27), (md, ob 2 [.ref ms, .ref mi, .int (iI cm)]), (ms, aI g 27 sm), (r, ob 2 [.ref rs, .ref i2_15, .int (iI c)]), (rs, aI g 27 s2_17), (i2_15, aI g m2_16 g2_18)] dX3_closeRow_55 rfl (by omega) (by omega) ef_27 rfl rfl ?_
      refine v_aload_n fx 1 dX3_closeRow_56 rfl rfl ?_
      refine v_get fx 0 1 inX3 k249 dX3_closeRow_57 rfl rfl (by decide) rfl rfl rfl ?_
      refine v_callV (As := []) (rest := []) fx [5, 6] [0, 1, 2, 3, 4, 7] [(r, ob 2 [.ref rs, .ref i2_15, .int (iI c)]), (rs, aI g 27 s2_17)] [(h0, ob 3 [.int (iI w), .ref r, .ref md, .ref dm, .ref t1, .ref t2, .ref t3, .ref td, .ref src]), (mi, aI g mm gi), (dm, aZ g 25 f_27), (md, ob 2 [.ref ms, .ref mi, .int (iI cm)]), (ms, aI g 27 sm), (i2_15, aI g m2_16 g2_18)] 0 0 (c_X2_close l g r rs i2_15 m2_16 c (fU F (c.toNat + 1) e2_19) s2_17 g2_18 (by first | exact hL2 | exact hL1 | exact hp0) (by first | omega | decide | assumption)) dX3_closeRow_60 k886 k340 k341 k49 k342 ykX2_close rfl rfl rfl rfl rfl rfl rfl rfl (nl rfl) ⟨nl rfl, nl rfl⟩ ⟨(by show kc_13 + 0 ≤ 5010; omega), (by show ks_14 + 0 ≤ 660000; omega)⟩ rfl (fun v9 w9 hu => ?_)
      obtain ⟨sr, rfl, rfl, u_28⟩ := hu
      refine v_is (wn := [(h0, ob 3 [.int (iI w), .ref r, .ref md, .ref dm, .ref t1, .ref t2, .ref t3, .ref td, .ref src]), (mi, aI g mm gi), (dm, aZ g 25 f_27), (md, ob 2 [.ref ms, .ref mi, .int (iI cm)]), (ms, aI g 27 sm), (i2_15, aI g m2_16 g2_18), (r, ob 2 [.ref rs, .ref i2_15, .int (iI (c + 1))]), (rs, aI g 27 sr)]) (cn := kc_13) (sn := ks_14) (sn2 := []) rfl rfl rfl rfl ?_
      have hL3 := LB_up1 (F := F) (e := e2_19) (by first | exact hL2 | exact hL1 | exact hp0) (by omega) u_28
      have hR3 := RI_up (F := F) (e := e2_19) (by first | exact hL2 | exact hL1 | exact hp0) (by first | exact hR2 | exact hp1) (by first | exact hi2 | exact hi1 | exact hp3)
      refine v_aload_n fx 1 dX3_closeRow_63 rfl rfl ?_
      refine v_get fx 0 2 inX3 k250 dX3_closeRow_64 rfl rfl (by decide) rfl rfl rfl ?_
      refine v_callV (As := []) (rest := []) fx [3, 4] [0, 1, 2, 5, 6, 7] [(md, ob 2 [.ref ms, .ref mi, .int (iI cm)]), (ms, aI g 27 sm)] [(h0, ob 3 [.int (iI w), .ref r, .ref md, .ref dm, .ref t1, .ref t2, .ref t3, .ref td, .ref src]), (mi, aI g mm gi), (dm, aZ g 25 f_27), (i2_15, aI g m2_16 g2_18), (r, ob 2 [.ref rs, .ref i2_15, .int (iI (c + 1))]), (rs, aI g 27 sr)] 0 0 (c_X2_close l g md ms mi mm cm (fU G (cm.toNat + 1) (G cm.toNat)) sm gi (by first | exact hM1 | exact hp6) (by first | omega | decide | assumption)) dX3_closeRow_67 k886 k340 k341 k49 k342 ykX2_close rfl rfl rfl rfl rfl rfl rfl rfl (nl rfl) ⟨nl rfl, nl rfl⟩ ⟨(by show kc_13 + 0 ≤ 5010; omega), (by show ks_14 + 0 ≤ 660000; omega)⟩ rfl (fun v9 w9 hu => ?_)
      obtain ⟨sq, rfl, rfl, u_29⟩ := hu
      refine v_is (wn := [(h0, ob 3 [.int (iI w), .ref r, .ref md, .ref dm, .ref t1, .ref t2, .ref t3, .ref td, .ref src]), (mi, aI g mm gi), (dm, aZ g 25 f_27), (i2_15, aI g m2_16 g2_18), (r, ob 2 [.ref rs, .ref i2_15, .int (iI (c + 1))]), (rs, aI g 27 sr), (md, ob 2 [.ref ms, .ref mi, .int (iI (cm + 1))]), (ms, aI g 27 sq)]) (cn := kc_13) (sn := ks_14) (sn2 := []) rfl rfl rfl rfl ?_
      have hM3 := LB_up1 (F := G) (e := (G cm.toNat)) (by first | exact hM1 | exact hp6) (by omega) u_29
      have hN3 := ML_up (ge := (G cm.toNat)) (by omega) hp7 (by omega)
      exact v_vretE fx [(h0, ob 3 [.int (iI w), .ref r, .ref md, .ref dm, .ref t1, .ref t2, .ref t3, .ref td, .ref src]), (r, ob 2 [.ref rs, .ref i2_15, .int (iI (c + 1))]), (rs, aI g 27 sr), (i2_15, aI g m2_16 g2_18), (md, ob 2 [.ref ms, .ref mi, .int (iI (cm + 1))]), (ms, aI g 27 sq), (mi, aI g mm gi), (dm, aZ g 25 f_27)] [0, 4, 5, 3, 6, 7, 1, 2] hr dX3_closeRow_70 rfl rfl ⟨i2_15, m2_16, sr, g2_18, (fU F (c.toNat + 1) e2_19), sq, (fU G (cm.toNat + 1) (G cm.toNat)), f_27, rfl, rfl, (by exact hL3), (by exact hR3), (by exact hM3), (by exact hN3), (by first | omega | rfl | assumption)⟩
