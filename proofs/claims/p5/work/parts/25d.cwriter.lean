/-! THE CLASS: what its writer writes -/
/-- the changes of row x, by their numbers -/
noncomputable def rowA (F : Nat → Int) (fi : Nat → Int32) (c w x : Int) : Int → Int := fun k => itm F fi c w x k
def rowN (F : Nat → Int) (x : Int) : Int := F (x.toNat + 1) - F x.toNat
theorem loA_0 {A : Int → Int} : loA A 0 = 0 := rfl
theorem loA_s {A : Int → Int} {k : Int} (h : 0 ≤ k) : loA A (k + 1) = A k := by
  unfold loA; rw [if_neg (by omega), show k + 1 - 1 = k by omega]
theorem one_step {n : Nat} {f : Nat → Int32} {tu c z b k : Int} {T : List Bool} {A : Int → Int} (h : EncC n f tu c ((T ++ oneUp A k.toNat) ++ runS z b)) (hz : z = A k - loA A k) (hb : b = k % 2) (h0 : 0 ≤ k) : EncC n f tu c (T ++ oneUp A (k + 1).toNat) := by
  rw [show (k + 1).toNat = k.toNat + 1 by omega]
  show EncC n f tu c (T ++ (oneUp A k.toNat ++ runS (A (k.toNat : Nat) - loA A (k.toNat : Nat)) (((k.toNat : Nat) : Int) % 2)))
  rw [show ((k.toNat : Nat) : Int) = k by omega, ← hz, ← hb, ← List.append_assoc]
  exact h
theorem one_0 {n : Nat} {f : Nat → Int32} {tu c : Int} {T : List Bool} {A : Int → Int} (h : EncC n f tu c T) : EncC n f tu c (T ++ oneUp A (0 : Int).toNat) := by
  show EncC n f tu c (T ++ [])
  rw [List.append_nil]; exact h
/-- the changes above before number nx are not behind a0 -/
def TL (F : Nat → Int) (fi : Nat → Int32) (ab nx a0 : Int) : Prop := (0 ≤ ab → nx ≤ F (ab.toNat + 1) - F ab.toNat ∧ ∀ i : Int, F ab.toNat ≤ i → i < F ab.toNat + nx → vl fi i ≤ a0) ∧ (ab < 0 → nx = 0)
theorem TL_0 {F : Nat → Int} {fi : Nat → Int32} {c : Int} {fs : Nat → Int32} {n : Nat} {ab a0 : Int} (hL : LB c F fs n) (h : -1 ≤ ab ∧ ab < c) : TL F fi ab 0 a0 := by
  refine ⟨fun h0 => ⟨?_, fun i h1 h2 => by omega⟩, fun _ => rfl⟩
  have := LB_len hL (x := ab) (by omega)
  omega
theorem TL_mono {F : Nat → Int} {fi : Nat → Int32} {ab nx a0 a1 : Int} (h : TL F fi ab nx a0) (h1 : a0 ≤ a1) : TL F fi ab nx a1 := ⟨fun h0 => ⟨(h.1 h0).1, fun i h2 h3 => by have := (h.1 h0).2 i h2 h3; omega⟩, h.2⟩
theorem TL_step {F : Nat → Int} {fi : Nat → Int32} {ab nx a0 : Int} (h : TL F fi ab nx a0) (h0 : 0 ≤ ab) (h1 : nx < F (ab.toNat + 1) - F ab.toNat) (h2 : vl fi (F ab.toNat + nx) ≤ a0) : TL F fi ab (nx + 1) a0 := by
  refine ⟨fun _ => ⟨by omega, fun i h3 h4 => ?_⟩, fun h3 => by omega⟩
  by_cases q : i = F ab.toNat + nx
  · rw [q]; exact h2
  · exact (h.1 h0).2 i h3 (by omega)
theorem MinI_of {F : Nat → Int} {fi : Nat → Int32} {w c ab nx a0 : Int} (hR : RI w c F fi) (hab : -1 ≤ ab ∧ ab < c) (hT : TI F fi ab nx a0) (hL : TL F fi ab nx a0) (h0 : 0 ≤ nx) (hw : 0 ≤ w ∧ a0 < w) : MinI (rowA F fi c w ab) a0 nx := by
  refine ⟨h0, ?_, fun j h1 h2 => ?_⟩
  · have := itm_b (k := nx) hR hab hT (Int.le_refl _) h0 hw.1
    show a0 < itm F fi c w ab nx
    omega
  · show itm F fi c w ab j ≤ a0
    by_cases q : 0 ≤ ab
    · have g := hL.1 q
      rw [itm_in (by omega)]
      exact g.2 _ (by omega) (by omega)
    · have := hL.2 (by omega); omega
def TLw (w : Int) (F : Nat → Int) (fi : Nat → Int32) (x k a0 : Int) : Prop := a0 < w → TL F fi x k a0
theorem TLw_next {F : Nat → Int} {fi : Nat → Int32} {w c x k a0 : Int} (hR : RI w c F fi) (hx : 0 ≤ x ∧ x < c) (hT : TI F fi x k a0) (hL : TL F fi x k a0) (hk : 0 ≤ k) : TLw w F fi x (k + 1) (itm F fi c w x k) := by
  intro hlt
  rcases TI_item hR hx hT hk with ⟨g1, g2, g3, g4, g5⟩ | ⟨g1, g2⟩
  · exact TL_step (TL_mono hL (by omega)) hx.1 g5 (by omega)
  · omega
theorem TLw_next2 {F : Nat → Int} {fi : Nat → Int32} {w c x k a0 : Int} (hR : RI w c F fi) (hx : 0 ≤ x ∧ x < c) (hT : TI F fi x k a0) (hL : TL F fi x k a0) (hk : 0 ≤ k) (hw : 0 ≤ w) : TLw w F fi x (k + 2) (itm F fi c w x (k + 1)) := by
  intro hlt
  have h1 := a2_of hR hx hT hk hw
  have h2 := TLw_next hR hx hT hL hk (by omega)
  have h3 := TLw_next hR hx (TI_next hR hx hT hk) h2 (by omega) hlt
  rw [show k + 1 + 1 = k + 2 by omega] at h3
  exact h3
theorem PreT_pass {w : Int} {A B : Int → Int} {P : List Bool} {a0 bk k n a1 b2 q : Int} (h : PreT w A B P a0 bk) (h1 : a0 < w) (h2 : MinI A a0 k) (h3 : MinI B a0 n) (e1 : a1 = A k) (e2 : b2 = B (nb1 n bk + 1)) (hlt : b2 < a1) (hq : q = 17) : PreT w A B (P ++ codeB q) b2 bk := by
  have := PreT_step h h1 h2 h3
  rw [← e1, ← e2] at this
  unfold sC sA sK at this
  rw [if_pos hlt, if_pos hlt, if_pos hlt] at this
  rw [hq]; exact this
theorem PreT_vert {w : Int} {A B : Int → Int} {P : List Bool} {a0 bk k n a1 b1 b2 q k2 : Int} (h : PreT w A B P a0 bk) (h1 : a0 < w) (h2 : MinI A a0 k) (h3 : MinI B a0 n) (e1 : a1 = A k) (e0 : b1 = B (nb1 n bk)) (e2 : b2 = B (nb1 n bk + 1)) (hlt : ¬ b2 < a1) (hv : -3 ≤ a1 - b1 ∧ a1 - b1 ≤ 3) (hq : q = vco (a1 - b1)) (hk : k2 = 1 - bk) : PreT w A B (P ++ codeB q) a1 k2 := by
  have := PreT_step h h1 h2 h3
  rw [← e1, ← e2, ← e0] at this
  unfold sC sA sK at this
  rw [if_neg hlt, if_neg hlt, if_neg hlt, if_pos (show sV a1 b1 from hv), if_pos (show sV a1 b1 from hv), if_pos (show sV a1 b1 from hv)] at this
  rw [hq, hk]; exact this
theorem PreT_hor {w : Int} {A B : Int → Int} {P : List Bool} {a0 bk k n a1 a2 b1 b2 q z1 z2 g1 g2 : Int} (h : PreT w A B P a0 bk) (h1 : a0 < w) (h2 : MinI A a0 k) (h3 : MinI B a0 n) (e1 : a1 = A k) (e3 : a2 = A (k + 1)) (e0 : b1 = B (nb1 n bk)) (e2 : b2 = B (nb1 n bk + 1)) (hlt : ¬ b2 < a1) (hv : ¬ (-3 ≤ a1 - b1 ∧ a1 - b1 ≤ 3)) (hq : q = 9) (hz1 : z1 = a1 - rs0 a0) (hg1 : g1 = bk) (hz2 : z2 = a2 - a1) (hg2 : g2 = 1 - bk) : PreT w A B (((P ++ codeB q) ++ runS z1 g1) ++ runS z2 g2) a2 bk := by
  have := PreT_step h h1 h2 h3
  rw [← e1, ← e2, ← e0, ← e3] at this
  unfold sC sA sK at this
  rw [if_neg hlt, if_neg hlt, if_neg hlt, if_neg (show ¬ sV a1 b1 from hv), if_neg (show ¬ sV a1 b1 from hv), if_neg (show ¬ sV a1 b1 from hv)] at this
  rw [hq, hz1, hz2, hg1, hg2, List.append_assoc, List.append_assoc]; exact this
theorem rs0_of {a0 q : Int} (h : (a0 < 0 ∧ q = 0) ∨ (0 ≤ a0 ∧ q = a0)) : q = rs0 a0 := by
  unfold rs0
  rcases h with ⟨h1, h2⟩ | ⟨h1, h2⟩
  · rw [if_pos h1]; exact h2
  · rw [if_neg (by omega)]; exact h2
theorem mode_0 {z : Int} (e : gT3.getD (0 : Int).toNat 0 = iI z) (hz : -2147483648 ≤ z ∧ z < 2147483648) : z = 17 := by
  have h : gT3.getD (0 : Int).toNat 0 = iI 17 := by decide +kernel
  rw [h, iI_inj (by omega) hz] at e; exact e.symm
theorem mode_1 {z : Int} (e : gT3.getD (1 : Int).toNat 0 = iI z) (hz : -2147483648 ≤ z ∧ z < 2147483648) : z = 9 := by
  have h : gT3.getD (1 : Int).toNat 0 = iI 9 := by decide +kernel
  rw [h, iI_inj (by omega) hz] at e; exact e.symm
theorem mode_v {d z : Int} (e : gT3.getD (5 + d).toNat 0 = iI z) (hz : -2147483648 ≤ z ∧ z < 2147483648) : z = vco d := by
  unfold vco; rw [e, iI_toInt hz]
theorem EncC_as {n : Nat} {f : Nat → Int32} {tu c : Int} {T P L : List Bool} (h : EncC n f tu c ((T ++ P) ++ L)) : EncC n f tu c (T ++ (P ++ L)) := by rw [← List.append_assoc]; exact h
abbrev po_c_X6_writeRuns_e (g : GG) (h0 : Nat) (r : Nat) (o : Nat) (td : Nat) (w : Int) (ba : Nat) (n : Nat) (f : Nat → Int32) (cb : Int) (pl : Int) (tu : Int) (rs : Nat) (it : Nat) (m : Nat) (c : Int) (F : Nat → Int) (fs : Nat → Int32) (fi : Nat → Int32) (x : Int) (T : List Bool) : Option Value → va_W → Nat → Nat → Prop := fun v8 w8 kc8 ks8 => ∃ b2 : Nat, ∃ n2 : Nat, ∃ f2 : Nat → Int32, ∃ c2 : Int, v8 = none ∧ w8 = [(h0, ob 6 [.ref r, .int (iI w), .ref o, .ref td]), (o, ob 0 [.ref b2, .int (iI c2), .int (iI pl), .int (iI tu)]), (b2, aB g n2 f2), (r, ob 2 [.ref rs, .ref it, .int (iI c)]), (rs, aI g 27 fs), (it, aI g m fi)] ∧ (ks8 + 2 * n ≤ 2 * n2 ∧ 64 * kc8 ≤ ks8 ∧ n ≤ n2 ∧ n2 ≤ 130000) ∧ (c2 ≤ 8 * (n2 : Int) ∧ cb ≤ c2) ∧ (bF f2) ∧ (c2 ≤ cb + 7 * w + 30) ∧ (EncC n2 f2 tu c2 (T ++ oneUp (rowA F fi c w x) (rowN F x + 1).toNat))
set_option maxHeartbeats 4000000 in
set_option maxRecDepth 100000 in
theorem c_X6_writeRuns_e (l : Launch) (g : GG) (h0 : Nat) (r : Nat) (o : Nat) (td : Nat) (w : Int) (ba : Nat) (n : Nat) (f : Nat → Int32) (cb : Int) (pl : Int) (tu : Int) (rs : Nat) (it : Nat) (m : Nat) (c : Int) (F : Nat → Int) (fs : Nat → Int32) (fi : Nat → Int32) (x : Int) (T : List Bool) (hp0 : 0 ≤ cb ∧ cb ≤ 8 * (n : Int) ∧ 64 ≤ n ∧ n ≤ 130000) (hp1 : bF f) (hp2 : LB c F fs m) (hp3 : RI w c F fi) (hp4 : 0 ≤ x ∧ x < c) (hp5 : 1 ≤ w ∧ w ≤ 3000) (hp6 : cb ≤ 486000) (hp7 : EncC n f tu cb T) (hp8 : TU tu) : CtE l g yX6_writeRuns (wM yX6_writeRuns cX6_writeRuns 6 none) (rmD 5 8200 800000) [.ref h0, .int (iI x)] [(h0, ob 6 [.ref r, .int (iI w), .ref o, .ref td]), (o, ob 0 [.ref ba, .int (iI cb), .int (iI pl), .int (iI tu)]), (ba, aB g n f), (r, ob 2 [.ref rs, .ref it, .int (iI c)]), (rs, aI g 27 fs), (it, aI g m fi)] (po_c_X6_writeRuns_e g h0 r o td w ba n f cb pl tu rs it m c F fs fi x T) := by
  refine CtE_of (by decide +kernel) (Nat.le_of_ble_eq_true rfl) ?_
  intro p9 e9 s9 m9 ag9 bl9 mt9 c9 A9 fx hr hnm
  have hc := LB_c hp2
  have hm := LB_n hp2
  refine v_aload_n fx 0 dX6_writeRuns_0 rfl rfl ?_
  refine v_get fx 0 0 inX6 k166 dX6_writeRuns_1 rfl rfl (by decide) rfl rfl rfl ?_
  refine v_iload_n fx 1 dX6_writeRuns_4 rfl rfl ?_
  refine v_callV (As := [.int (iI x)]) (rest := []) fx [3, 4] [0, 1, 2, 5] [(r, ob 2 [.ref rs, .ref it, .int (iI c)]), (rs, aI g 27 fs)] [(h0, ob 6 [.ref r, .int (iI w), .ref o, .ref td]), (o, ob 0 [.ref ba, .int (iI cb), .int (iI pl), .int (iI tu)]), (ba, aB g n f), (it, aI g m fi)] 1 0 (c_X2_length l g r rs it m c F fs fi x (by first | omega | decide | assumption) (by first | omega | decide | assumption)) dX6_writeRuns_5 k763 k719 k720 k49 k721 ykX2_length rfl rfl rfl rfl rfl rfl rfl rfl (nl rfl) ⟨nl rfl, nl rfl⟩ ⟨(nl rfl), (nl rfl)⟩ rfl (fun v9 w9 hu => ?_)
  obtain ⟨ln, rfl, rfl, u_1, u_2⟩ := hu
  refine v_is (wn := [(h0, ob 6 [.ref r, .int (iI w), .ref o, .ref td]), (o, ob 0 [.ref ba, .int (iI cb), .int (iI pl), .int (iI tu)]), (ba, aB g n f), (it, aI g m fi), (r, ob 2 [.ref rs, .ref it, .int (iI c)]), (rs, aI g 27 fs)]) (cn := 0) (sn := 0) (sn2 := [.int (iI ln)]) rfl rfl rfl rfl ?_
  have hln : ln = F (x.toNat + 1) - F x.toNat := by omega
  have hln2 : ln ≤ 3000 := by
    have := inc_len (RI_at hp3 hp4) (by omega); omega
  clear u_1
  refine v_iconst fx dX6_writeRuns_8 rfl ?_
  refine v_iadd fx (ln + 1) dX6_writeRuns_9 (by rfl) rfl ?_
  refine v_istore_n fx [(2, .int (iI (ln + 1))), (0, .ref h0), (1, .int (iI x))] dX6_writeRuns_10 (by decide) rfl rfl ?_
  refine v_iconst fx dX6_writeRuns_11 rfl ?_
  refine v_istore_n fx [(3, .int (iI 0)), (2, .int (iI (ln + 1))), (0, .ref h0), (1, .int (iI x))] dX6_writeRuns_12 (by decide) rfl rfl ?_
  refine v_iconst fx dX6_writeRuns_13 rfl ?_
  refine v_istore fx [(4, .int (iI 0)), (3, .int (iI 0)), (2, .int (iI (ln + 1))), (0, .ref h0), (1, .int (iI x))] dX6_writeRuns_14 (by decide) rfl rfl ?_
  have L16 : ∀ (N : Nat) (k : Int) (st : Int) (a0 : Int) (b1 : Nat) (n1 : Nat) (f1 : Nat → Int32) (c1 : Int) (cl : Nat) (sl : Nat), (bF f1) → (c1 ≤ 8 * (n1 : Int) ∧ cb ≤ c1 ∧ n ≤ n1 ∧ n1 ≤ 130000 ∧ sl + 2 * n ≤ 2 * n1 ∧ 64 * cl ≤ sl) → (0 ≤ k ∧ k ≤ ln + 1) → (TI F fi x k a0) → (a0 ≤ st ∧ st ≤ a0 + 1 ∧ 0 ≤ st ∧ st ≤ w) → (st < w ∨ k = ln + 1) → (c1 ≤ cb + 7 * st + 10 - 10 * (st - a0)) → (EncC n1 f1 tu c1 (T ++ oneUp (rowA F fi c w x) k.toNat)) → (st = loA (rowA F fi c w x) k) → ((ln + 1 - k).toNat) < N → V p9 l e9 (rmD 5 8200 800000) s9 m9 ag9 bl9 mt9 c9 6 g A9 (MQE bl9 (cQE g (po_c_X6_writeRuns_e g h0 r o td w ba n f cb pl tu rs it m c F fs fi x T) A9) ag9 s9 A9) [(h0, ob 6 [.ref r, .int (iI w), .ref o, .ref td]), (o, ob 0 [.ref b1, .int (iI c1), .int (iI pl), .int (iI tu)]), (b1, aB g n1 f1), (r, ob 2 [.ref rs, .ref it, .int (iI c)]), (rs, aI g 27 fs), (it, aI g m fi)] cl sl [(0, .ref h0), (1, .int (iI x)), (2, .int (iI (ln + 1))), (3, .int (iI st)), (4, .int (iI k))] 16 [] := by
    intro N
    induction N with
    | zero => intro k st a0 b1 n1 f1 c1 cl sl hi16_0 hi16_1 hi16_2 hi16_3 hi16_4 hi16_5 hi16_6 hi16_7 hi16_8 hN; exact absurd hN (Nat.not_lt_zero _)
    | succ N ihL16 =>
      intro k st a0 b1 n1 f1 c1 cl sl hi16_0 hi16_1 hi16_2 hi16_3 hi16_4 hi16_5 hi16_6 hi16_7 hi16_8 hN16
      refine v_iload fx 4 dX6_writeRuns_16 rfl rfl ?_
      refine v_iload_n fx 2 dX6_writeRuns_18 rfl rfl ?_
      refine v_icmp_ge fx 68 dX6_writeRuns_19 (by decide) rfl (by omega) (by omega) (fun h_3 => ?_) (fun h_3 => ?_)
      ·
        exact v_vretE fx [(h0, ob 6 [.ref r, .int (iI w), .ref o, .ref td]), (o, ob 0 [.ref b1, .int (iI c1), .int (iI pl), .int (iI tu)]), (b1, aB g n1 f1), (r, ob 2 [.ref rs, .ref it, .int (iI c)]), (rs, aI g 27 fs), (it, aI g m fi)] [0, 1, 2, 3, 4, 5] hr dX6_writeRuns_68 rfl rfl ⟨b1, n1, f1, c1, rfl, rfl, (by first | omega | rfl | assumption), (by first | omega | rfl | assumption), (by exact hi16_0), (by first | omega | rfl | assumption), (by rw [show rowN F x + 1 = k by unfold rowN; omega]; exact hi16_7)⟩
      ·
        refine v_aload_n fx 0 dX6_writeRuns_22 rfl rfl ?_
        refine v_get fx 0 0 inX6 k166 dX6_writeRuns_23 rfl rfl (by decide) rfl rfl rfl ?_
        refine v_iload_n fx 1 dX6_writeRuns_26 rfl rfl ?_
        refine v_iload fx 4 dX6_writeRuns_27 rfl rfl ?_
        refine v_aload_n fx 0 dX6_writeRuns_29 rfl rfl ?_
        refine v_get fx 0 1 inX6 k167 dX6_writeRuns_30 rfl rfl (by decide) rfl rfl rfl ?_
        refine v_callV (As := [.int (iI x), .int (iI k), .int (iI w)]) (rest := []) fx [3, 4, 5] [0, 1, 2] [(r, ob 2 [.ref rs, .ref it, .int (iI c)]), (rs, aI g 27 fs), (it, aI g m fi)] [(h0, ob 6 [.ref r, .int (iI w), .ref o, .ref td]), (o, ob 0 [.ref b1, .int (iI c1), .int (iI pl), .int (iI tu)]), (b1, aB g n1 f1)] 3 0 (c_X2_item l g r rs it m c F fs fi x k w (by first | omega | decide | assumption) (by omega) (by omega) (by omega)) dX6_writeRuns_33 k685 k686 k687 k49 k688 ykX2_item rfl rfl rfl rfl rfl rfl rfl rfl (nl rfl) ⟨nl rfl, nl rfl⟩ ⟨(by show cl + 0 ≤ 8200; omega), (by show sl + 0 ≤ 800000; omega)⟩ rfl (fun v9 w9 hu => ?_)
        obtain ⟨v, rfl, rfl, u_4, u_5⟩ := hu
        refine v_is (wn := [(h0, ob 6 [.ref r, .int (iI w), .ref o, .ref td]), (o, ob 0 [.ref b1, .int (iI c1), .int (iI pl), .int (iI tu)]), (b1, aB g n1 f1), (r, ob 2 [.ref rs, .ref it, .int (iI c)]), (rs, aI g 27 fs), (it, aI g m fi)]) (cn := cl) (sn := sl) (sn2 := [.int (iI v)]) rfl rfl rfl rfl ?_
        have hnx := TI_next hp3 hp4 hi16_3 (by omega)
        have hit := TI_item hp3 hp4 hi16_3 (by omega)
        have hva : v = (rowA F fi c w x) k := u_4
        rw [← u_4] at hnx hit
        refine v_istore fx [(5, .int (iI v)), (0, .ref h0), (1, .int (iI x)), (2, .int (iI (ln + 1))), (3, .int (iI st)), (4, .int (iI k))] dX6_writeRuns_36 (by decide) rfl rfl ?_
        refine v_aload_n fx 1 dX6_writeRuns_38 rfl rfl ?_
        refine v_iload fx 0 dX6_writeRuns_39 rfl rfl ?_
        refine v_iload_n fx 4 dX6_writeRuns_41 rfl rfl ?_
        refine v_isub fx (v - st) dX6_writeRuns_42 (by rfl) rfl ?_
        refine v_iload fx 5 dX6_writeRuns_43 rfl rfl ?_
        refine v_iconst fx dX6_writeRuns_45 rfl ?_
        refine v_irem fx (iI (k % 2)) dX6_writeRuns_46 (by decide) (iI_rem (by omega) 2 (by decide) (by decide)) rfl ?_
        refine v_iconst fx dX6_writeRuns_47 rfl ?_
        refine v_icmp_ne fx 55 dX6_writeRuns_48 (by decide) rfl (by omega) (by omega) (fun h_6 => ?_) (fun h_6 => ?_)
        ·
          refine v_iconst fx dX6_writeRuns_55 rfl ?_
          refine v_callVE (As := [.int (iI (v - st)), .int (iI 0)]) (rest := []) fx [0, 1, 2] [3, 4, 5] [(h0, ob 6 [.ref r, .int (iI w), .ref o, .ref td]), (o, ob 0 [.ref b1, .int (iI c1), .int (iI pl), .int (iI tu)]), (b1, aB g n1 f1)] [(r, ob 2 [.ref rs, .ref it, .int (iI c)]), (rs, aI g 27 fs), (it, aI g m fi)] 2 0 (c_X6_writeRun_e l g h0 r o td w b1 n1 f1 c1 pl tu (v - st) 0 (T ++ oneUp (rowA F fi c w x) k.toNat) (by first | omega | decide | assumption) (by exact hi16_0) (by first | omega | decide | assumption) (by first | omega | decide | assumption) (by first | omega | decide | assumption) (by assumption) (by assumption)) dX6_writeRuns_56 k736 k738 k9 k51 k739 ykX6_writeRun rfl rfl rfl rfl rfl rfl rfl rfl (nl rfl) ⟨nl rfl, nl rfl⟩ ⟨(by show cl + 4070 ≤ 8200; omega), (by show sl + 530000 ≤ 800000; omega)⟩ rfl (fun v9 w9 kc_7 ks_8 hu => ?_)
          obtain ⟨b2_9, n2_10, f2_11, c2_12, rfl, rfl, u_13, u_14, u_15, u_16, u_17⟩ := hu
          refine v_is (wn := [(r, ob 2 [.ref rs, .ref it, .int (iI c)]), (rs, aI g 27 fs), (it, aI g m fi), (h0, ob 6 [.ref r, .int (iI w), .ref o, .ref td]), (o, ob 0 [.ref b2_9, .int (iI c2_12), .int (iI pl), .int (iI tu)]), (b2_9, aB g n2_10 f2_11)]) (cn := cl + kc_7) (sn := sl + ks_8) (sn2 := []) rfl rfl rfl rfl ?_
          refine v_iload fx 0 dX6_writeRuns_59 rfl rfl ?_
          refine v_istore_n fx [(3, .int (iI v)), (5, .int (iI v)), (0, .ref h0), (1, .int (iI x)), (2, .int (iI (ln + 1))), (4, .int (iI k))] dX6_writeRuns_61 (by decide) rfl rfl ?_
          refine v_iinc fx 5 (k + 1) [(4, .int (iI (k + 1))), (3, .int (iI v)), (5, .int (iI v)), (0, .ref h0), (1, .int (iI x)), (2, .int (iI (ln + 1)))] dX6_writeRuns_62 rfl (by omega) (by decide) rfl rfl ?_
          refine v_goto fx 16 dX6_writeRuns_65 (by decide) ?_
          refine v_ws [3, 4, 5, 0, 1, 2] [(h0, ob 6 [.ref r, .int (iI w), .ref o, .ref td]), (o, ob 0 [.ref b2_9, .int (iI c2_12), .int (iI pl), .int (iI tu)]), (b2_9, aB g n2_10 f2_11), (r, ob 2 [.ref rs, .ref it, .int (iI c)]), (rs, aI g 27 fs), (it, aI g m fi)] rfl rfl ?_
          refine v_lv [3, 4, 5, 1, 0] [(0, .ref h0), (1, .int (iI x)), (2, .int (iI (ln + 1))), (3, .int (iI v)), (4, .int (iI (k + 1)))] rfl ?_
          exact ihL16 (k + 1) v v b2_9 n2_10 f2_11 c2_12 (cl + kc_7) (sl + ks_8) (by assumption) (by omega) (by omega) (by exact hnx) (by omega) (by omega) (by omega) (by exact one_step (by assumption) (by rw [← hi16_8, hva]) (by omega) (by omega)) (by rw [loA_s (by omega)]; exact hva) (by omega)
        ·
          refine v_iconst fx dX6_writeRuns_51 rfl ?_
          refine v_goto fx 56 dX6_writeRuns_52 (by decide) ?_
          refine v_callVE (As := [.int (iI (v - st)), .int (iI 1)]) (rest := []) fx [0, 1, 2] [3, 4, 5] [(h0, ob 6 [.ref r, .int (iI w), .ref o, .ref td]), (o, ob 0 [.ref b1, .int (iI c1), .int (iI pl), .int (iI tu)]), (b1, aB g n1 f1)] [(r, ob 2 [.ref rs, .ref it, .int (iI c)]), (rs, aI g 27 fs), (it, aI g m fi)] 2 0 (c_X6_writeRun_e l g h0 r o td w b1 n1 f1 c1 pl tu (v - st) 1 (T ++ oneUp (rowA F fi c w x) k.toNat) (by first | omega | decide | assumption) (by exact hi16_0) (by first | omega | decide | assumption) (by first | omega | decide | assumption) (by first | omega | decide | assumption) (by assumption) (by assumption)) dX6_writeRuns_56 k736 k738 k9 k51 k739 ykX6_writeRun rfl rfl rfl rfl rfl rfl rfl rfl (nl rfl) ⟨nl rfl, nl rfl⟩ ⟨(by show cl + 4070 ≤ 8200; omega), (by show sl + 530000 ≤ 800000; omega)⟩ rfl (fun v9 w9 kc_18 ks_19 hu => ?_)
          obtain ⟨b2_20, n2_21, f2_22, c2_23, rfl, rfl, u_24, u_25, u_26, u_27, u_28⟩ := hu
          refine v_is (wn := [(r, ob 2 [.ref rs, .ref it, .int (iI c)]), (rs, aI g 27 fs), (it, aI g m fi), (h0, ob 6 [.ref r, .int (iI w), .ref o, .ref td]), (o, ob 0 [.ref b2_20, .int (iI c2_23), .int (iI pl), .int (iI tu)]), (b2_20, aB g n2_21 f2_22)]) (cn := cl + kc_18) (sn := sl + ks_19) (sn2 := []) rfl rfl rfl rfl ?_
          refine v_iload fx 0 dX6_writeRuns_59 rfl rfl ?_
          refine v_istore_n fx [(3, .int (iI v)), (5, .int (iI v)), (0, .ref h0), (1, .int (iI x)), (2, .int (iI (ln + 1))), (4, .int (iI k))] dX6_writeRuns_61 (by decide) rfl rfl ?_
          refine v_iinc fx 5 (k + 1) [(4, .int (iI (k + 1))), (3, .int (iI v)), (5, .int (iI v)), (0, .ref h0), (1, .int (iI x)), (2, .int (iI (ln + 1)))] dX6_writeRuns_62 rfl (by omega) (by decide) rfl rfl ?_
          refine v_goto fx 16 dX6_writeRuns_65 (by decide) ?_
          refine v_ws [3, 4, 5, 0, 1, 2] [(h0, ob 6 [.ref r, .int (iI w), .ref o, .ref td]), (o, ob 0 [.ref b2_20, .int (iI c2_23), .int (iI pl), .int (iI tu)]), (b2_20, aB g n2_21 f2_22), (r, ob 2 [.ref rs, .ref it, .int (iI c)]), (rs, aI g 27 fs), (it, aI g m fi)] rfl rfl ?_
          refine v_lv [3, 4, 5, 1, 0] [(0, .ref h0), (1, .int (iI x)), (2, .int (iI (ln + 1))), (3, .int (iI v)), (4, .int (iI (k + 1)))] rfl ?_
          exact ihL16 (k + 1) v v b2_20 n2_21 f2_22 c2_23 (cl + kc_18) (sl + ks_19) (by assumption) (by omega) (by omega) (by exact hnx) (by omega) (by omega) (by omega) (by exact one_step (by assumption) (by rw [← hi16_8, hva]) (by omega) (by omega)) (by rw [loA_s (by omega)]; exact hva) (by omega)
  refine v_ws [0, 1, 2, 4, 5, 3] [(h0, ob 6 [.ref r, .int (iI w), .ref o, .ref td]), (o, ob 0 [.ref ba, .int (iI cb), .int (iI pl), .int (iI tu)]), (ba, aB g n f), (r, ob 2 [.ref rs, .ref it, .int (iI c)]), (rs, aI g 27 fs), (it, aI g m fi)] rfl rfl ?_
  refine v_lv [3, 4, 2, 1, 0] [(0, .ref h0), (1, .int (iI x)), (2, .int (iI (ln + 1))), (3, .int (iI 0)), (4, .int (iI 0))] rfl ?_
  exact L16 _ 0 0 (-1) ba n f cb 0 0 (by exact hp1) (by omega) (by omega) (by exact TI_0 hp3 (by omega)) (by omega) (by omega) (by omega) (by exact one_0 hp7) (by exact loA_0.symm) (Nat.lt_succ_self _)
abbrev po_c_X5_moveTo_e (g : GG) (h0 : Nat) (r : Nat) (w : Int) (ab : Int) (nx : Int) (a0 : Int) (bk : Int) (rs : Nat) (it : Nat) (n : Nat) (c : Int) (F : Nat → Int) (fs : Nat → Int32) (fi : Nat → Int32) (x : Int) : Option Value → va_W → Prop := fun v8 w8 => ∃ x2 : Int, v8 = none ∧ w8 = [(h0, ob 5 [.ref r, .int (iI w), .int (iI ab), .int (iI x2), .int (iI x), .int (iI bk)]), (r, ob 2 [.ref rs, .ref it, .int (iI c)]), (rs, aI g 27 fs), (it, aI g n fi)] ∧ (0 ≤ x2 ∧ x2 ≤ 3000) ∧ (TI F fi ab x2 x) ∧ (TL F fi ab x2 x)
set_option maxHeartbeats 4000000 in
set_option maxRecDepth 100000 in
theorem c_X5_moveTo_e (l : Launch) (g : GG) (h0 : Nat) (r : Nat) (w : Int) (ab : Int) (nx : Int) (a0 : Int) (bk : Int) (rs : Nat) (it : Nat) (n : Nat) (c : Int) (F : Nat → Int) (fs : Nat → Int32) (fi : Nat → Int32) (x : Int) (hp0 : LB c F fs n) (hp1 : RI w c F fi) (hp2 : -1 ≤ ab ∧ ab < c) (hp3 : 1 ≤ w ∧ w ≤ 3000) (hp4 : 0 ≤ nx ∧ nx ≤ 3000) (hp5 : -1 ≤ x ∧ x ≤ w) (hp6 : TL F fi ab nx a0) (hp7 : a0 ≤ x) : Ct l g yX5_moveTo (wM yX5_moveTo cX5_moveTo 3 none) (rmD 1 0 0) [.ref h0, .int (iI x)] [(h0, ob 5 [.ref r, .int (iI w), .int (iI ab), .int (iI nx), .int (iI a0), .int (iI bk)]), (r, ob 2 [.ref rs, .ref it, .int (iI c)]), (rs, aI g 27 fs), (it, aI g n fi)] (po_c_X5_moveTo_e g h0 r w ab nx a0 bk rs it n c F fs fi x) := by
  refine Ct_of (by decide +kernel) (Nat.le_of_ble_eq_true rfl) ?_
  intro p9 e9 s9 m9 ag9 bl9 mt9 c9 A9 fx hr hnm
  have hc := LB_c hp0
  have hn := LB_n hp0
  refine v_aload_n fx 0 dX5_moveTo_0 rfl rfl ?_
  refine v_iload_n fx 1 dX5_moveTo_1 rfl rfl ?_
  refine v_put fx 0 4 [(h0, ob 5 [.ref r, .int (iI w), .int (iI ab), .int (iI nx), .int (iI x), .int (iI bk)]), (r, ob 2 [.ref rs, .ref it, .int (iI c)]), (rs, aI g 27 fs), (it, aI g n fi)] inX5 tyX5_ok nmX5 k151 dX5_moveTo_2 rfl rfl (by decide) rfl rfl rfl rfl (nl rfl) rfl rfl ?_
  refine v_aload_n fx 0 dX5_moveTo_5 rfl rfl ?_
  refine v_get fx 0 0 inX5 k147 dX5_moveTo_6 rfl rfl (by decide) rfl rfl rfl ?_
  refine v_aload_n fx 0 dX5_moveTo_9 rfl rfl ?_
  refine v_get fx 0 2 inX5 k149 dX5_moveTo_10 rfl rfl (by decide) rfl rfl rfl ?_
  refine v_callV (As := [.int (iI ab)]) (rest := []) fx [1, 2] [0, 3] [(r, ob 2 [.ref rs, .ref it, .int (iI c)]), (rs, aI g 27 fs)] [(h0, ob 5 [.ref r, .int (iI w), .int (iI ab), .int (iI nx), .int (iI x), .int (iI bk)]), (it, aI g n fi)] 1 0 (c_X2_length l g r rs it n c F fs fi ab (by first | omega | decide | assumption) (by first | omega | decide | assumption)) dX5_moveTo_13 k718 k719 k720 k49 k721 ykX2_length rfl rfl rfl rfl rfl rfl rfl rfl (nl rfl) ⟨nl rfl, nl rfl⟩ ⟨(nl rfl), (nl rfl)⟩ rfl (fun v9 w9 hu => ?_)
  obtain ⟨ln, rfl, rfl, u_1, u_2⟩ := hu
  refine v_is (wn := [(h0, ob 5 [.ref r, .int (iI w), .int (iI ab), .int (iI nx), .int (iI x), .int (iI bk)]), (it, aI g n fi), (r, ob 2 [.ref rs, .ref it, .int (iI c)]), (rs, aI g 27 fs)]) (cn := 0) (sn := 0) (sn2 := [.int (iI ln)]) rfl rfl rfl rfl ?_
  have hln : ln ≤ 3000 := by
    rcases u_1 with ⟨g1, g2, g3⟩ | ⟨g1, g2⟩
    · have := inc_len (RI_at hp1 (x := ab) (by omega)) (by omega); omega
    · omega
  have hl0 := u_1
  refine v_istore_n fx [(2, .int (iI ln)), (0, .ref h0), (1, .int (iI x))] dX5_moveTo_16 (by decide) rfl rfl ?_
  have L17 : ∀ (N : Nat) (y : Int), (0 ≤ y ∧ y ≤ 3000) → (TL F fi ab y x) → ((3000 - y).toNat) < N → V p9 l e9 (rmD 1 0 0) s9 m9 ag9 bl9 mt9 c9 3 g A9 (MQ bl9 (cQ g (po_c_X5_moveTo_e g h0 r w ab nx a0 bk rs it n c F fs fi x) A9) ag9 s9 0 0 A9) [(h0, ob 5 [.ref r, .int (iI w), .int (iI ab), .int (iI y), .int (iI x), .int (iI bk)]), (r, ob 2 [.ref rs, .ref it, .int (iI c)]), (rs, aI g 27 fs), (it, aI g n fi)] 0 0 [(0, .ref h0), (1, .int (iI x)), (2, .int (iI ln))] 17 [] := by
    intro N
    induction N with
    | zero => intro y hi17_0 hi17_1 hN; exact absurd hN (Nat.not_lt_zero _)
    | succ N ihL17 =>
      intro y hi17_0 hi17_1 hN17
      refine v_aload_n fx 0 dX5_moveTo_17 rfl rfl ?_
      refine v_get fx 0 3 inX5 k150 dX5_moveTo_18 rfl rfl (by decide) rfl rfl rfl ?_
      refine v_iload_n fx 2 dX5_moveTo_21 rfl rfl ?_
      refine v_icmp_ge fx 64 dX5_moveTo_22 (by decide) rfl (by omega) (by omega) (fun h_3 => ?_) (fun h_3 => ?_)
      ·
        have hTI : TI F fi ab y x := TI_end (fun h => by omega)
        exact v_vret fx [(h0, ob 5 [.ref r, .int (iI w), .int (iI ab), .int (iI y), .int (iI x), .int (iI bk)]), (r, ob 2 [.ref rs, .ref it, .int (iI c)]), (rs, aI g 27 fs), (it, aI g n fi)] [0, 1, 2, 3] hr dX5_moveTo_64 rfl rfl (nl rfl) (nl rfl) ⟨y, rfl, rfl, (by first | omega | rfl | assumption), (by exact hTI), (by exact hi17_1)⟩
      ·
        refine v_aload_n fx 0 dX5_moveTo_25 rfl rfl ?_
        refine v_get fx 0 0 inX5 k147 dX5_moveTo_26 rfl rfl (by decide) rfl rfl rfl ?_
        refine v_aload_n fx 0 dX5_moveTo_29 rfl rfl ?_
        refine v_get fx 0 2 inX5 k149 dX5_moveTo_30 rfl rfl (by decide) rfl rfl rfl ?_
        refine v_aload_n fx 0 dX5_moveTo_33 rfl rfl ?_
        refine v_get fx 0 3 inX5 k150 dX5_moveTo_34 rfl rfl (by decide) rfl rfl rfl ?_
        refine v_aload_n fx 0 dX5_moveTo_37 rfl rfl ?_
        refine v_get fx 0 1 inX5 k148 dX5_moveTo_38 rfl rfl (by decide) rfl rfl rfl ?_
        refine v_callV (As := [.int (iI ab), .int (iI y), .int (iI w)]) (rest := []) fx [1, 2, 3] [0] [(r, ob 2 [.ref rs, .ref it, .int (iI c)]), (rs, aI g 27 fs), (it, aI g n fi)] [(h0, ob 5 [.ref r, .int (iI w), .int (iI ab), .int (iI y), .int (iI x), .int (iI bk)])] 3 0 (c_X2_item l g r rs it n c F fs fi ab y w (by first | omega | decide | assumption) (by first | omega | decide | assumption) (by first | omega | decide | assumption) (by first | omega | decide | assumption)) dX5_moveTo_41 k697 k686 k687 k49 k688 ykX2_item rfl rfl rfl rfl rfl rfl rfl rfl (nl rfl) ⟨nl rfl, nl rfl⟩ ⟨(nl rfl), (nl rfl)⟩ rfl (fun v9 w9 hu => ?_)
        obtain ⟨rr, rfl, rfl, u_4, u_5⟩ := hu
        refine v_is (wn := [(h0, ob 5 [.ref r, .int (iI w), .int (iI ab), .int (iI y), .int (iI x), .int (iI bk)]), (r, ob 2 [.ref rs, .ref it, .int (iI c)]), (rs, aI g 27 fs), (it, aI g n fi)]) (cn := 0) (sn := 0) (sn2 := [.int (iI rr)]) rfl rfl rfl rfl ?_
        have hr0 := itm_or (F := F) (fi := fi) (c := c) (d := w) (x := ab) (k := y)
        refine v_aload_n fx 0 dX5_moveTo_44 rfl rfl ?_
        refine v_get fx 0 4 inX5 k151 dX5_moveTo_45 rfl rfl (by decide) rfl rfl rfl ?_
        refine v_icmp_gt fx 64 dX5_moveTo_48 (by decide) rfl (by omega) (by omega) (fun h_6 => ?_) (fun h_6 => ?_)
        ·
          have hTI : TI F fi ab y x := by
            rcases hr0 with ⟨g1, g2, g3, g4, g5⟩ | ⟨g1, g2⟩
            · exact TI_at (RI_at hp1 (x := ab) (by omega)) (by omega) (by omega)
            · exact TI_end (fun h => by omega)
          exact v_vret fx [(h0, ob 5 [.ref r, .int (iI w), .int (iI ab), .int (iI y), .int (iI x), .int (iI bk)]), (r, ob 2 [.ref rs, .ref it, .int (iI c)]), (rs, aI g 27 fs), (it, aI g n fi)] [0, 1, 2, 3] hr dX5_moveTo_64 rfl rfl (nl rfl) (nl rfl) ⟨y, rfl, rfl, (by first | omega | rfl | assumption), (by exact hTI), (by exact hi17_1)⟩
        ·
          refine v_aload_n fx 0 dX5_moveTo_51 rfl rfl ?_
          refine v_dup fx dX5_moveTo_52 rfl rfl ?_
          refine v_get fx 0 3 inX5 k150 dX5_moveTo_53 rfl rfl (by decide) rfl rfl rfl ?_
          refine v_iconst fx dX5_moveTo_56 rfl ?_
          refine v_iadd fx (y + 1) dX5_moveTo_57 (by rfl) rfl ?_
          refine v_put fx 0 3 [(h0, ob 5 [.ref r, .int (iI w), .int (iI ab), .int (iI (y + 1)), .int (iI x), .int (iI bk)]), (r, ob 2 [.ref rs, .ref it, .int (iI c)]), (rs, aI g 27 fs), (it, aI g n fi)] inX5 tyX5_ok nmX5 k150 dX5_moveTo_58 rfl rfl (by decide) rfl rfl rfl rfl (nl rfl) rfl rfl ?_
          refine v_goto fx 17 dX5_moveTo_61 (by decide) ?_
          exact ihL17 (y + 1) (by omega) (by exact TL_step hi17_1 (by omega) (by omega) (by omega)) (by omega)
  refine v_ws [0, 2, 3, 1] [(h0, ob 5 [.ref r, .int (iI w), .int (iI ab), .int (iI nx), .int (iI x), .int (iI bk)]), (r, ob 2 [.ref rs, .ref it, .int (iI c)]), (rs, aI g 27 fs), (it, aI g n fi)] rfl rfl ?_
  refine v_lv [1, 2, 0] [(0, .ref h0), (1, .int (iI x)), (2, .int (iI ln))] rfl ?_
  exact L17 _ nx (by omega) (by exact TL_mono hp6 (by omega)) (Nat.lt_succ_self _)
abbrev po_c_X5_turnAt_e (g : GG) (h0 : Nat) (r : Nat) (w : Int) (ab : Int) (nx : Int) (a0 : Int) (bk : Int) (rs : Nat) (it : Nat) (n : Nat) (c : Int) (F : Nat → Int) (fs : Nat → Int32) (fi : Nat → Int32) (x : Int) : Option Value → va_W → Prop := fun v8 w8 => ∃ x2 : Int, ∃ k2 : Int, v8 = none ∧ w8 = [(h0, ob 5 [.ref r, .int (iI w), .int (iI ab), .int (iI x2), .int (iI x), .int (iI k2)]), (r, ob 2 [.ref rs, .ref it, .int (iI c)]), (rs, aI g 27 fs), (it, aI g n fi)] ∧ (0 ≤ x2 ∧ x2 ≤ 3000) ∧ (TI F fi ab x2 x) ∧ (k2 = 1 - bk) ∧ (TL F fi ab x2 x)
set_option maxHeartbeats 4000000 in
set_option maxRecDepth 100000 in
theorem c_X5_turnAt_e (l : Launch) (g : GG) (h0 : Nat) (r : Nat) (w : Int) (ab : Int) (nx : Int) (a0 : Int) (bk : Int) (rs : Nat) (it : Nat) (n : Nat) (c : Int) (F : Nat → Int) (fs : Nat → Int32) (fi : Nat → Int32) (x : Int) (hp0 : LB c F fs n) (hp1 : RI w c F fi) (hp2 : -1 ≤ ab ∧ ab < c) (hp3 : 1 ≤ w ∧ w ≤ 3000) (hp4 : 0 ≤ nx ∧ nx ≤ 3000) (hp5 : -1 ≤ x ∧ x ≤ w) (hp6 : 0 ≤ bk ∧ bk ≤ 1) (hp7 : TL F fi ab nx a0) (hp8 : a0 ≤ x) : Ct l g yX5_turnAt (wM yX5_turnAt cX5_turnAt 2 none) (rmD 2 0 0) [.ref h0, .int (iI x)] [(h0, ob 5 [.ref r, .int (iI w), .int (iI ab), .int (iI nx), .int (iI a0), .int (iI bk)]), (r, ob 2 [.ref rs, .ref it, .int (iI c)]), (rs, aI g 27 fs), (it, aI g n fi)] (po_c_X5_turnAt_e g h0 r w ab nx a0 bk rs it n c F fs fi x) := by
  refine Ct_of (by decide +kernel) (Nat.le_of_ble_eq_true rfl) ?_
  intro p9 e9 s9 m9 ag9 bl9 mt9 c9 A9 fx hr hnm
  refine v_aload_n fx 0 dX5_turnAt_0 rfl rfl ?_
  refine v_iload_n fx 1 dX5_turnAt_1 rfl rfl ?_
  refine v_callV (As := [.int (iI x)]) (rest := []) fx [0, 1, 2, 3] [] [(h0, ob 5 [.ref r, .int (iI w), .int (iI ab), .int (iI nx), .int (iI a0), .int (iI bk)]), (r, ob 2 [.ref rs, .ref it, .int (iI c)]), (rs, aI g 27 fs), (it, aI g n fi)] [] 1 0 (c_X5_moveTo_e l g h0 r w ab nx a0 bk rs it n c F fs fi x (by first | omega | decide | assumption) (by first | omega | decide | assumption) (by first | omega | decide | assumption) (by first | omega | decide | assumption) (by first | omega | decide | assumption) (by first | omega | decide | assumption) (by first | omega | decide | assumption) (by first | omega | decide | assumption)) dX5_turnAt_2 k726 k715 k716 k52 k717 ykX5_moveTo rfl rfl rfl rfl rfl rfl rfl rfl (nl rfl) ⟨nl rfl, nl rfl⟩ ⟨(nl rfl), (nl rfl)⟩ rfl (fun v9 w9 hu => ?_)
  obtain ⟨x2_1, rfl, rfl, u_2, u_3, u_4⟩ := hu
  refine v_is (wn := [(h0, ob 5 [.ref r, .int (iI w), .int (iI ab), .int (iI x2_1), .int (iI x), .int (iI bk)]), (r, ob 2 [.ref rs, .ref it, .int (iI c)]), (rs, aI g 27 fs), (it, aI g n fi)]) (cn := 0) (sn := 0) (sn2 := []) rfl rfl rfl rfl ?_
  refine v_aload_n fx 0 dX5_turnAt_5 rfl rfl ?_
  refine v_aload_n fx 0 dX5_turnAt_6 rfl rfl ?_
  refine v_get fx 0 5 inX5 k152 dX5_turnAt_7 rfl rfl (by decide) rfl rfl rfl ?_
  refine v_if_ne fx 17 dX5_turnAt_10 (by decide) rfl (by omega) (fun h_5 => ?_) (fun h_5 => ?_)
  ·
    refine v_iconst fx dX5_turnAt_17 rfl ?_
    refine v_put fx 0 5 [(h0, ob 5 [.ref r, .int (iI w), .int (iI ab), .int (iI x2_1), .int (iI x), .int (iI 0)]), (r, ob 2 [.ref rs, .ref it, .int (iI c)]), (rs, aI g 27 fs), (it, aI g n fi)] inX5 tyX5_ok nmX5 k152 dX5_turnAt_18 rfl rfl (by decide) rfl rfl rfl rfl (nl rfl) rfl rfl ?_
    exact v_vret fx [(h0, ob 5 [.ref r, .int (iI w), .int (iI ab), .int (iI x2_1), .int (iI x), .int (iI 0)]), (r, ob 2 [.ref rs, .ref it, .int (iI c)]), (rs, aI g 27 fs), (it, aI g n fi)] [0, 1, 2, 3] hr dX5_turnAt_21 rfl rfl (nl rfl) (nl rfl) ⟨x2_1, 0, rfl, rfl, (by first | omega | rfl | assumption), (by assumption), (by first | omega | rfl | assumption), (by assumption)⟩
  ·
    refine v_iconst fx dX5_turnAt_13 rfl ?_
    refine v_goto fx 18 dX5_turnAt_14 (by decide) ?_
    refine v_put fx 0 5 [(h0, ob 5 [.ref r, .int (iI w), .int (iI ab), .int (iI x2_1), .int (iI x), .int (iI 1)]), (r, ob 2 [.ref rs, .ref it, .int (iI c)]), (rs, aI g 27 fs), (it, aI g n fi)] inX5 tyX5_ok nmX5 k152 dX5_turnAt_18 rfl rfl (by decide) rfl rfl rfl rfl (nl rfl) rfl rfl ?_
    exact v_vret fx [(h0, ob 5 [.ref r, .int (iI w), .int (iI ab), .int (iI x2_1), .int (iI x), .int (iI 1)]), (r, ob 2 [.ref rs, .ref it, .int (iI c)]), (rs, aI g 27 fs), (it, aI g n fi)] [0, 1, 2, 3] hr dX5_turnAt_21 rfl rfl (nl rfl) (nl rfl) ⟨x2_1, 1, rfl, rfl, (by first | omega | rfl | assumption), (by assumption), (by first | omega | rfl | assumption), (by assumption)⟩
abbrev po_c_X6_writeModes_e (g : GG) (h0 : Nat) (r : Nat) (o : Nat) (td : Nat) (w : Int) (ba : Nat) (n : Nat) (f : Nat → Int32) (cb : Int) (pl : Int) (tu : Int) (rs : Nat) (it : Nat) (m : Nat) (c : Int) (F : Nat → Int) (fs : Nat → Int32) (fi : Nat → Int32) (t1 : Int) (t2 : Int) (t3 : Int) (t4 : Int) (x : Int) (T : List Bool) : Option Value → va_W → Nat → Nat → Prop := fun v8 w8 kc8 ks8 => ∃ b2 : Nat, ∃ n2 : Nat, ∃ f2 : Nat → Int32, ∃ c2 : Int, ∃ y1 : Int, ∃ y2 : Int, ∃ y3 : Int, ∃ y4 : Int, ∃ R : List Bool, v8 = none ∧ w8 = [(h0, ob 6 [.ref r, .int (iI w), .ref o, .ref td]), (o, ob 0 [.ref b2, .int (iI c2), .int (iI pl), .int (iI tu)]), (b2, aB g n2 f2), (r, ob 2 [.ref rs, .ref it, .int (iI c)]), (rs, aI g 27 fs), (it, aI g m fi), (td, ob 5 [.ref r, .int (iI w), .int (iI y1), .int (iI y2), .int (iI y3), .int (iI y4)])] ∧ (ks8 + 2 * n ≤ 2 * n2 ∧ 64 * kc8 ≤ ks8 ∧ n ≤ n2 ∧ n2 ≤ 130000) ∧ (c2 ≤ 8 * (n2 : Int) ∧ cb ≤ c2) ∧ (bF f2) ∧ (c2 ≤ cb + 7 * w + 30) ∧ (EncC n2 f2 tu c2 (T ++ R)) ∧ (Two w (rowA F fi c w x) (rowA F fi c w (x - 1)) (-1) 0 R)
set_option maxHeartbeats 4000000 in
set_option maxRecDepth 100000 in
theorem c_X6_writeModes_e (l : Launch) (g : GG) (h0 : Nat) (r : Nat) (o : Nat) (td : Nat) (w : Int) (ba : Nat) (n : Nat) (f : Nat → Int32) (cb : Int) (pl : Int) (tu : Int) (rs : Nat) (it : Nat) (m : Nat) (c : Int) (F : Nat → Int) (fs : Nat → Int32) (fi : Nat → Int32) (t1 : Int) (t2 : Int) (t3 : Int) (t4 : Int) (x : Int) (T : List Bool) (hp0 : 0 ≤ cb ∧ cb ≤ 8 * (n : Int) ∧ 64 ≤ n ∧ n ≤ 130000) (hp1 : bF f) (hp2 : LB c F fs m) (hp3 : RI w c F fi) (hp4 : 0 ≤ x ∧ x < c) (hp5 : 1 ≤ w ∧ w ≤ 3000) (hp6 : cb ≤ 486000) (hp7 : EncC n f tu cb T) (hp8 : TU tu) : CtE l g yX6_writeModes (wM yX6_writeModes cX6_writeModes 7 none) (rmD 5 8200 800000) [.ref h0, .int (iI x)] [(h0, ob 6 [.ref r, .int (iI w), .ref o, .ref td]), (o, ob 0 [.ref ba, .int (iI cb), .int (iI pl), .int (iI tu)]), (ba, aB g n f), (r, ob 2 [.ref rs, .ref it, .int (iI c)]), (rs, aI g 27 fs), (it, aI g m fi), (td, ob 5 [.ref r, .int (iI w), .int (iI t1), .int (iI t2), .int (iI t3), .int (iI t4)])] (po_c_X6_writeModes_e g h0 r o td w ba n f cb pl tu rs it m c F fs fi t1 t2 t3 t4 x T) := by
  refine CtE_of (by decide +kernel) (Nat.le_of_ble_eq_true rfl) ?_
  intro p9 e9 s9 m9 ag9 bl9 mt9 c9 A9 fx hr hnm
  have hc := LB_c hp2
  have hm := LB_n hp2
  refine v_aload_n fx 0 dX6_writeModes_0 rfl rfl ?_
  refine v_get fx 0 3 inX6 k169 dX6_writeModes_1 rfl rfl (by decide) rfl rfl rfl ?_
  refine v_iload_n fx 1 dX6_writeModes_4 rfl rfl ?_
  refine v_callV (As := [.int (iI x)]) (rest := []) fx [6] [0, 1, 2, 3, 4, 5] [(td, ob 5 [.ref r, .int (iI w), .int (iI t1), .int (iI t2), .int (iI t3), .int (iI t4)])] [(h0, ob 6 [.ref r, .int (iI w), .ref o, .ref td]), (o, ob 0 [.ref ba, .int (iI cb), .int (iI pl), .int (iI tu)]), (ba, aB g n f), (r, ob 2 [.ref rs, .ref it, .int (iI c)]), (rs, aI g 27 fs), (it, aI g m fi)] 1 0 (c_X5_begin l g td r w t1 t2 t3 t4 x ) dX6_writeModes_5 k677 k678 k679 k52 k680 ykX5_begin rfl rfl rfl rfl rfl rfl rfl rfl (nl rfl) ⟨nl rfl, nl rfl⟩ ⟨(nl rfl), (nl rfl)⟩ rfl (fun v9 w9 hu => ?_)
  obtain ⟨rfl, rfl⟩ := hu
  refine v_is (wn := [(h0, ob 6 [.ref r, .int (iI w), .ref o, .ref td]), (o, ob 0 [.ref ba, .int (iI cb), .int (iI pl), .int (iI tu)]), (ba, aB g n f), (r, ob 2 [.ref rs, .ref it, .int (iI c)]), (rs, aI g 27 fs), (it, aI g m fi), (td, ob 5 [.ref r, .int (iI w), .int (iI (x - 1)), .int (iI 0), .int (iI (-1)), .int (iI 0)])]) (cn := 0) (sn := 0) (sn2 := []) rfl rfl rfl rfl ?_
  refine v_iconst fx dX6_writeModes_8 rfl ?_
  refine v_istore_n fx [(2, .int (iI 0)), (0, .ref h0), (1, .int (iI x))] dX6_writeModes_9 (by decide) rfl rfl ?_
  refine v_iconst fx dX6_writeModes_10 rfl ?_
  refine v_istore_n fx [(3, .int (iI 0)), (2, .int (iI 0)), (0, .ref h0), (1, .int (iI x))] dX6_writeModes_11 (by decide) rfl rfl ?_
  have L12 : ∀ (N : Nat) (i : Int) (k : Int) (nx : Int) (a0 : Int) (bk : Int) (P : List Bool) (b1 : Nat) (n1 : Nat) (f1 : Nat → Int32) (c1 : Int) (cl : Nat) (sl : Nat), (bF f1) → (c1 ≤ 8 * (n1 : Int) ∧ cb ≤ c1 ∧ n ≤ n1 ∧ n1 ≤ 130000 ∧ sl + 2 * n ≤ 2 * n1 ∧ 64 * cl ≤ sl) → (0 ≤ i ∧ i ≤ w + 1 ∧ i ≤ a0 + 1) → (0 ≤ k ∧ k ≤ 2 * i) → (TI F fi (x - 1) nx a0) → (TI F fi x k a0) → (0 ≤ nx ∧ nx ≤ 3000 ∧ 0 ≤ bk ∧ bk ≤ 1 ∧ -1 ≤ a0 ∧ a0 ≤ w) → (c1 ≤ cb + bgt a0 w) → (EncC n1 f1 tu c1 (T ++ P)) → (PreT w (rowA F fi c w x) (rowA F fi c w (x - 1)) P a0 bk) → (TL F fi (x - 1) nx a0) → (TLw w F fi x k a0) → ((w + 1 - i).toNat) < N → V p9 l e9 (rmD 5 8200 800000) s9 m9 ag9 bl9 mt9 c9 7 g A9 (MQE bl9 (cQE g (po_c_X6_writeModes_e g h0 r o td w ba n f cb pl tu rs it m c F fs fi t1 t2 t3 t4 x T) A9) ag9 s9 A9) [(h0, ob 6 [.ref r, .int (iI w), .ref o, .ref td]), (o, ob 0 [.ref b1, .int (iI c1), .int (iI pl), .int (iI tu)]), (b1, aB g n1 f1), (r, ob 2 [.ref rs, .ref it, .int (iI c)]), (rs, aI g 27 fs), (it, aI g m fi), (td, ob 5 [.ref r, .int (iI w), .int (iI (x - 1)), .int (iI nx), .int (iI a0), .int (iI bk)])] cl sl [(0, .ref h0), (1, .int (iI x)), (2, .int (iI k)), (3, .int (iI i))] 12 [] := by
    intro N
    induction N with
    | zero => intro i k nx a0 bk P b1 n1 f1 c1 cl sl hi12_0 hi12_1 hi12_2 hi12_3 hi12_4 hi12_5 hi12_6 hi12_7 hi12_8 hi12_9 hi12_10 hi12_11 hN; exact absurd hN (Nat.not_lt_zero _)
    | succ N ihL12 =>
      intro i k nx a0 bk P b1 n1 f1 c1 cl sl hi12_0 hi12_1 hi12_2 hi12_3 hi12_4 hi12_5 hi12_6 hi12_7 hi12_8 hi12_9 hi12_10 hi12_11 hN12
      have hbl := bgt_le (a0 := a0) (w := w) (by omega) (by omega)
      refine v_iload_n fx 3 dX6_writeModes_12 rfl rfl ?_
      refine v_aload_n fx 0 dX6_writeModes_13 rfl rfl ?_
      refine v_get fx 0 1 inX6 k167 dX6_writeModes_14 rfl rfl (by decide) rfl rfl rfl ?_
      refine v_icmp_gt fx 233 dX6_writeModes_17 (by decide) rfl (by omega) (by omega) (fun h_1 => ?_) (fun h_1 => ?_)
      ·
        exact v_vretE fx [(h0, ob 6 [.ref r, .int (iI w), .ref o, .ref td]), (o, ob 0 [.ref b1, .int (iI c1), .int (iI pl), .int (iI tu)]), (b1, aB g n1 f1), (r, ob 2 [.ref rs, .ref it, .int (iI c)]), (rs, aI g 27 fs), (it, aI g m fi), (td, ob 5 [.ref r, .int (iI w), .int (iI (x - 1)), .int (iI nx), .int (iI a0), .int (iI bk)])] [0, 1, 2, 3, 4, 5, 6] hr dX6_writeModes_233 rfl rfl ⟨b1, n1, f1, c1, (x - 1), nx, a0, bk, P, rfl, rfl, (by first | omega | rfl | assumption), (by first | omega | rfl | assumption), (by exact hi12_0), (by first | omega | rfl | assumption), (by exact hi12_8), (by exact PreT_end hi12_9 (by omega))⟩
      ·
        refine v_aload_n fx 0 dX6_writeModes_20 rfl rfl ?_
        refine v_get fx 0 3 inX6 k169 dX6_writeModes_21 rfl rfl (by decide) rfl rfl rfl ?_
        refine v_callV (As := []) (rest := []) fx [6] [0, 1, 2, 3, 4, 5] [(td, ob 5 [.ref r, .int (iI w), .int (iI (x - 1)), .int (iI nx), .int (iI a0), .int (iI bk)])] [(h0, ob 6 [.ref r, .int (iI w), .ref o, .ref td]), (o, ob 0 [.ref b1, .int (iI c1), .int (iI pl), .int (iI tu)]), (b1, aB g n1 f1), (r, ob 2 [.ref rs, .ref it, .int (iI c)]), (rs, aI g 27 fs), (it, aI g m fi)] 0 0 (c_X5_isWhole l g td r w (x - 1) nx a0 bk (by first | omega | decide | assumption) (by first | omega | decide | assumption)) dX6_writeModes_24 k681 k682 k683 k52 k684 ykX5_isWhole rfl rfl rfl rfl rfl rfl rfl rfl (nl rfl) ⟨nl rfl, nl rfl⟩ ⟨(by show cl + 0 ≤ 8200; omega), (by show sl + 0 ≤ 800000; omega)⟩ rfl (fun v9 w9 hu => ?_)
        obtain ⟨q_2, rfl, rfl, u_3⟩ := hu
        refine v_is (wn := [(h0, ob 6 [.ref r, .int (iI w), .ref o, .ref td]), (o, ob 0 [.ref b1, .int (iI c1), .int (iI pl), .int (iI tu)]), (b1, aB g n1 f1), (r, ob 2 [.ref rs, .ref it, .int (iI c)]), (rs, aI g 27 fs), (it, aI g m fi), (td, ob 5 [.ref r, .int (iI w), .int (iI (x - 1)), .int (iI nx), .int (iI a0), .int (iI bk)])]) (cn := cl) (sn := sl) (sn2 := [.int (iI q_2)]) rfl rfl rfl rfl ?_
        refine v_if_ne fx 233 dX6_writeModes_27 (by decide) rfl (by omega) (fun h_4 => ?_) (fun h_4 => ?_)
        ·
          exact v_vretE fx [(h0, ob 6 [.ref r, .int (iI w), .ref o, .ref td]), (o, ob 0 [.ref b1, .int (iI c1), .int (iI pl), .int (iI tu)]), (b1, aB g n1 f1), (r, ob 2 [.ref rs, .ref it, .int (iI c)]), (rs, aI g 27 fs), (it, aI g m fi), (td, ob 5 [.ref r, .int (iI w), .int (iI (x - 1)), .int (iI nx), .int (iI a0), .int (iI bk)])] [0, 1, 2, 3, 4, 5, 6] hr dX6_writeModes_233 rfl rfl ⟨b1, n1, f1, c1, (x - 1), nx, a0, bk, P, rfl, rfl, (by first | omega | rfl | assumption), (by first | omega | rfl | assumption), (by exact hi12_0), (by first | omega | rfl | assumption), (by exact hi12_8), (by exact PreT_end hi12_9 (by omega))⟩
        ·
          have ha1 := a1_of hp3 hp4 hi12_5 (by omega) (by omega) (by omega)
          have hTl := hi12_11 (by omega)
          have hmA := MinI_of hp3 (by omega) hi12_5 hTl (by omega) (by omega)
          have hmB := MinI_of hp3 (by omega) hi12_4 hi12_10 (by omega) (by omega)
          refine v_aload_n fx 0 dX6_writeModes_30 rfl rfl ?_
          refine v_get fx 0 0 inX6 k166 dX6_writeModes_31 rfl rfl (by decide) rfl rfl rfl ?_
          refine v_iload_n fx 1 dX6_writeModes_34 rfl rfl ?_
          refine v_iload_n fx 2 dX6_writeModes_35 rfl rfl ?_
          refine v_aload_n fx 0 dX6_writeModes_36 rfl rfl ?_
          refine v_get fx 0 1 inX6 k167 dX6_writeModes_37 rfl rfl (by decide) rfl rfl rfl ?_
          refine v_callV (As := [.int (iI x), .int (iI k), .int (iI w)]) (rest := []) fx [3, 4, 5] [0, 1, 2, 6] [(r, ob 2 [.ref rs, .ref it, .int (iI c)]), (rs, aI g 27 fs), (it, aI g m fi)] [(h0, ob 6 [.ref r, .int (iI w), .ref o, .ref td]), (o, ob 0 [.ref b1, .int (iI c1), .int (iI pl), .int (iI tu)]), (b1, aB g n1 f1), (td, ob 5 [.ref r, .int (iI w), .int (iI (x - 1)), .int (iI nx), .int (iI a0), .int (iI bk)])] 3 0 (c_X2_item l g r rs it m c F fs fi x k w (by first | omega | decide | assumption) (by omega) (by omega) (by omega)) dX6_writeModes_40 k685 k686 k687 k49 k688 ykX2_item rfl rfl rfl rfl rfl rfl rfl rfl (nl rfl) ⟨nl rfl, nl rfl⟩ ⟨(by show cl + 0 ≤ 8200; omega), (by show sl + 0 ≤ 800000; omega)⟩ rfl (fun v9 w9 hu => ?_)
          obtain ⟨a1, rfl, rfl, u_5, u_6⟩ := hu
          refine v_is (wn := [(h0, ob 6 [.ref r, .int (iI w), .ref o, .ref td]), (o, ob 0 [.ref b1, .int (iI c1), .int (iI pl), .int (iI tu)]), (b1, aB g n1 f1), (td, ob 5 [.ref r, .int (iI w), .int (iI (x - 1)), .int (iI nx), .int (iI a0), .int (iI bk)]), (r, ob 2 [.ref rs, .ref it, .int (iI c)]), (rs, aI g 27 fs), (it, aI g m fi)]) (cn := cl) (sn := sl) (sn2 := [.int (iI a1)]) rfl rfl rfl rfl ?_
          rw [← u_5] at ha1
          have hea := u_5
          refine v_istore fx [(4, .int (iI a1)), (0, .ref h0), (1, .int (iI x)), (2, .int (iI k)), (3, .int (iI i))] dX6_writeModes_43 (by decide) rfl rfl ?_
          refine v_iload fx 0 dX6_writeModes_45 rfl rfl ?_
          refine v_aload_n fx 1 dX6_writeModes_47 rfl rfl ?_
          refine v_get fx 0 3 inX6 k169 dX6_writeModes_48 rfl rfl (by decide) rfl rfl rfl ?_
          refine v_callV (As := []) (rest := [.int (iI a1)]) fx [3, 4, 5, 6] [0, 1, 2] [(td, ob 5 [.ref r, .int (iI w), .int (iI (x - 1)), .int (iI nx), .int (iI a0), .int (iI bk)]), (r, ob 2 [.ref rs, .ref it, .int (iI c)]), (rs, aI g 27 fs), (it, aI g m fi)] [(h0, ob 6 [.ref r, .int (iI w), .ref o, .ref td]), (o, ob 0 [.ref b1, .int (iI c1), .int (iI pl), .int (iI tu)]), (b1, aB g n1 f1)] 0 0 (c_X5_b1 l g td r w (x - 1) nx a0 bk rs it m c F fs fi (by exact hp2) (by exact hp3) (by omega) (by omega) (by exact hi12_4) (by first | omega | decide | assumption) (by first | omega | decide | assumption) (by first | omega | decide | assumption)) dX6_writeModes_51 k689 k690 k691 k52 k692 ykX5_b1 rfl rfl rfl rfl rfl rfl rfl rfl (nl rfl) ⟨nl rfl, nl rfl⟩ ⟨(by show cl + 0 ≤ 8200; omega), (by show sl + 0 ≤ 800000; omega)⟩ rfl (fun v9 w9 hu => ?_)
          obtain ⟨q1, rfl, rfl, u_7, u_8, u_9⟩ := hu
          refine v_is (wn := [(h0, ob 6 [.ref r, .int (iI w), .ref o, .ref td]), (o, ob 0 [.ref b1, .int (iI c1), .int (iI pl), .int (iI tu)]), (b1, aB g n1 f1), (td, ob 5 [.ref r, .int (iI w), .int (iI (x - 1)), .int (iI nx), .int (iI a0), .int (iI bk)]), (r, ob 2 [.ref rs, .ref it, .int (iI c)]), (rs, aI g 27 fs), (it, aI g m fi)]) (cn := cl) (sn := sl) (sn2 := [.int (iI q1), .int (iI a1)]) rfl rfl rfl rfl ?_
          have hq1 := u_7
          refine v_isub fx (a1 - q1) dX6_writeModes_54 (by rfl) rfl ?_
          refine v_istore fx [(5, .int (iI (a1 - q1))), (4, .int (iI a1)), (0, .ref h0), (1, .int (iI x)), (2, .int (iI k)), (3, .int (iI i))] dX6_writeModes_55 (by decide) rfl rfl ?_
          refine v_aload_n fx 2 dX6_writeModes_57 rfl rfl ?_
          refine v_get fx 0 3 inX6 k169 dX6_writeModes_58 rfl rfl (by decide) rfl rfl rfl ?_
          refine v_callV (As := []) (rest := []) fx [3, 4, 5, 6] [0, 1, 2] [(td, ob 5 [.ref r, .int (iI w), .int (iI (x - 1)), .int (iI nx), .int (iI a0), .int (iI bk)]), (r, ob 2 [.ref rs, .ref it, .int (iI c)]), (rs, aI g 27 fs), (it, aI g m fi)] [(h0, ob 6 [.ref r, .int (iI w), .ref o, .ref td]), (o, ob 0 [.ref b1, .int (iI c1), .int (iI pl), .int (iI tu)]), (b1, aB g n1 f1)] 0 0 (c_X5_b2 l g td r w (x - 1) nx a0 bk rs it m c F fs fi (by exact hp2) (by exact hp3) (by omega) (by omega) (by exact hi12_4) (by first | omega | decide | assumption) (by first | omega | decide | assumption) (by first | omega | decide | assumption)) dX6_writeModes_61 k698 k699 k700 k52 k701 ykX5_b2 rfl rfl rfl rfl rfl rfl rfl rfl (nl rfl) ⟨nl rfl, nl rfl⟩ ⟨(by show cl + 0 ≤ 8200; omega), (by show sl + 0 ≤ 800000; omega)⟩ rfl (fun v9 w9 hu => ?_)
          obtain ⟨q2, rfl, rfl, u_10, u_11, u_12⟩ := hu
          refine v_is (wn := [(h0, ob 6 [.ref r, .int (iI w), .ref o, .ref td]), (o, ob 0 [.ref b1, .int (iI c1), .int (iI pl), .int (iI tu)]), (b1, aB g n1 f1), (td, ob 5 [.ref r, .int (iI w), .int (iI (x - 1)), .int (iI nx), .int (iI a0), .int (iI bk)]), (r, ob 2 [.ref rs, .ref it, .int (iI c)]), (rs, aI g 27 fs), (it, aI g m fi)]) (cn := cl) (sn := sl) (sn2 := [.int (iI q2)]) rfl rfl rfl rfl ?_
          have hq2 := u_10
          refine v_iload fx 1 dX6_writeModes_64 rfl rfl ?_
          refine v_icmp_ge fx 98 dX6_writeModes_66 (by decide) rfl (by omega) (by omega) (fun h_13 => ?_) (fun h_13 => ?_)
          ·
            refine v_iload fx 0 dX6_writeModes_98 rfl rfl ?_
            refine v_bipush fx dX6_writeModes_100 (by decide +kernel) rfl ?_
            refine v_icmp_lt fx 141 dX6_writeModes_102 (by decide) rfl (by omega) (by omega) (fun h_14 => ?_) (fun h_14 => ?_)
            ·
              refine v_aload_n fx 2 dX6_writeModes_141 rfl rfl ?_
              refine v_get fx 0 0 inX6 k166 dX6_writeModes_142 rfl rfl (by decide) rfl rfl rfl ?_
              refine v_iload_n fx 3 dX6_writeModes_145 rfl rfl ?_
              refine v_iload_n fx 4 dX6_writeModes_146 rfl rfl ?_
              refine v_iconst fx dX6_writeModes_147 rfl ?_
              refine v_iadd fx (k + 1) dX6_writeModes_148 (by rfl) rfl ?_
              refine v_aload_n fx 2 dX6_writeModes_149 rfl rfl ?_
              refine v_get fx 0 1 inX6 k167 dX6_writeModes_150 rfl rfl (by decide) rfl rfl rfl ?_
              refine v_callV (As := [.int (iI x), .int (iI (k + 1)), .int (iI w)]) (rest := []) fx [4, 5, 6] [0, 1, 2, 3] [(r, ob 2 [.ref rs, .ref it, .int (iI c)]), (rs, aI g 27 fs), (it, aI g m fi)] [(h0, ob 6 [.ref r, .int (iI w), .ref o, .ref td]), (o, ob 0 [.ref b1, .int (iI c1), .int (iI pl), .int (iI tu)]), (b1, aB g n1 f1), (td, ob 5 [.ref r, .int (iI w), .int (iI (x - 1)), .int (iI nx), .int (iI a0), .int (iI bk)])] 3 0 (c_X2_item l g r rs it m c F fs fi x (k + 1) w (by first | omega | decide | assumption) (by omega) (by omega) (by omega)) dX6_writeModes_153 k685 k686 k687 k49 k688 ykX2_item rfl rfl rfl rfl rfl rfl rfl rfl (nl rfl) ⟨nl rfl, nl rfl⟩ ⟨(by show cl + 0 ≤ 8200; omega), (by show sl + 0 ≤ 800000; omega)⟩ rfl (fun v9 w9 hu => ?_)
              obtain ⟨a2, rfl, rfl, u_15, u_16⟩ := hu
              refine v_is (wn := [(h0, ob 6 [.ref r, .int (iI w), .ref o, .ref td]), (o, ob 0 [.ref b1, .int (iI c1), .int (iI pl), .int (iI tu)]), (b1, aB g n1 f1), (td, ob 5 [.ref r, .int (iI w), .int (iI (x - 1)), .int (iI nx), .int (iI a0), .int (iI bk)]), (r, ob 2 [.ref rs, .ref it, .int (iI c)]), (rs, aI g 27 fs), (it, aI g m fi)]) (cn := cl) (sn := sl) (sn2 := [.int (iI a2)]) rfl rfl rfl rfl ?_
              have ha2 := a2_of hp3 hp4 hi12_5 (by omega) (by omega)
              rw [← hea, ← u_15] at ha2
              have hea2 := u_15
              have hTx : TI F fi x (k + 2) a2 := by
                have h1 := TI_next hp3 hp4 (TI_next hp3 hp4 hi12_5 (by omega)) (by omega)
                rw [← u_15, show k + 1 + 1 = k + 2 by omega] at h1
                exact h1
              refine v_istore fx [(6, .int (iI a2)), (5, .int (iI (a1 - q1))), (4, .int (iI a1)), (0, .ref h0), (1, .int (iI x)), (2, .int (iI k)), (3, .int (iI i))] dX6_writeModes_156 (by decide) rfl rfl ?_
              refine v_aload_n fx 3 dX6_writeModes_158 rfl rfl ?_
              refine v_get fx 0 2 inX6 k168 dX6_writeModes_159 rfl rfl (by decide) rfl rfl rfl ?_
              refine v_getsN fx 3 (by decide) n702 dX6_writeModes_162 rfl ?_
              refine v_iconst fx dX6_writeModes_165 rfl ?_
              refine v_tald fx 3 (by first | decide | omega) (by first | decide | omega) dX6_writeModes_166 rfl ?_
              refine v_any (fun z_17 hz_17 ez_17 => ?_)
              have htm := tabm_at (x := 1) (by omega) ez_17 hz_17
              have hmo := mode_1 ez_17 hz_17
              refine v_callVE (As := [.int (iI z_17)]) (rest := []) fx [1, 2] [0, 3, 4, 5, 6] [(o, ob 0 [.ref b1, .int (iI c1), .int (iI pl), .int (iI tu)]), (b1, aB g n1 f1)] [(h0, ob 6 [.ref r, .int (iI w), .ref o, .ref td]), (td, ob 5 [.ref r, .int (iI w), .int (iI (x - 1)), .int (iI nx), .int (iI a0), .int (iI bk)]), (r, ob 2 [.ref rs, .ref it, .int (iI c)]), (rs, aI g 27 fs), (it, aI g m fi)] 1 0 (c_X0_addCode_e l g o b1 n1 f1 c1 pl tu z_17 (T ++ P) (by first | omega | decide | assumption) (by first | assumption | exact hi12_0) (by first | omega | decide | assumption) (by first | omega | decide | assumption) (by exact hi12_8) (by assumption)) dX6_writeModes_167 k703 k704 k705 k50 k706 ykX0_addCode rfl rfl rfl rfl rfl rfl rfl rfl (nl rfl) ⟨nl rfl, nl rfl⟩ ⟨(by show cl + 1 ≤ 8200; omega), (by show sl + 260000 ≤ 800000; omega)⟩ rfl (fun v9 w9 kc_18 ks_19 hu => ?_)
              obtain ⟨b2_20, n2_21, f2_22, cm, rfl, rfl, u_23, u_24, u_25, u_26, u_27, u_28⟩ := hu
              refine v_is (wn := [(h0, ob 6 [.ref r, .int (iI w), .ref o, .ref td]), (td, ob 5 [.ref r, .int (iI w), .int (iI (x - 1)), .int (iI nx), .int (iI a0), .int (iI bk)]), (r, ob 2 [.ref rs, .ref it, .int (iI c)]), (rs, aI g 27 fs), (it, aI g m fi), (o, ob 0 [.ref b2_20, .int (iI cm), .int (iI pl), .int (iI tu)]), (b2_20, aB g n2_21 f2_22)]) (cn := cl + kc_18) (sn := sl + ks_19) (sn2 := []) rfl rfl rfl rfl ?_
              have hEn := u_28
              refine v_aload_n fx 3 dX6_writeModes_170 rfl rfl ?_
              refine v_iload fx 2 dX6_writeModes_171 rfl rfl ?_
              refine v_aload_n fx 3 dX6_writeModes_173 rfl rfl ?_
              refine v_get fx 0 3 inX6 k169 dX6_writeModes_174 rfl rfl (by decide) rfl rfl rfl ?_
              refine v_callV (As := []) (rest := [.int (iI a1), .ref h0]) fx [1] [0, 2, 3, 4, 5, 6] [(td, ob 5 [.ref r, .int (iI w), .int (iI (x - 1)), .int (iI nx), .int (iI a0), .int (iI bk)])] [(h0, ob 6 [.ref r, .int (iI w), .ref o, .ref td]), (r, ob 2 [.ref rs, .ref it, .int (iI c)]), (rs, aI g 27 fs), (it, aI g m fi), (o, ob 0 [.ref b2_20, .int (iI cm), .int (iI pl), .int (iI tu)]), (b2_20, aB g n2_21 f2_22)] 0 0 (c_X5_runStart l g td r w (x - 1) nx a0 bk (by first | omega | decide | assumption)) dX6_writeModes_177 k727 k728 k729 k52 k730 ykX5_runStart rfl rfl rfl rfl rfl rfl rfl rfl (nl rfl) ⟨nl rfl, nl rfl⟩ ⟨(by show (cl + kc_18) + 0 ≤ 8200; omega), (by show (sl + ks_19) + 0 ≤ 800000; omega)⟩ rfl (fun v9 w9 hu => ?_)
              obtain ⟨rs1, rfl, rfl, u_29⟩ := hu
              refine v_is (wn := [(h0, ob 6 [.ref r, .int (iI w), .ref o, .ref td]), (r, ob 2 [.ref rs, .ref it, .int (iI c)]), (rs, aI g 27 fs), (it, aI g m fi), (o, ob 0 [.ref b2_20, .int (iI cm), .int (iI pl), .int (iI tu)]), (b2_20, aB g n2_21 f2_22), (td, ob 5 [.ref r, .int (iI w), .int (iI (x - 1)), .int (iI nx), .int (iI a0), .int (iI bk)])]) (cn := cl + kc_18) (sn := sl + ks_19) (sn2 := [.int (iI rs1), .int (iI a1), .ref h0]) rfl rfl rfl rfl ?_
              have hrs := u_29
              refine v_isub fx (a1 - rs1) dX6_writeModes_180 (by rfl) rfl ?_
              refine v_aload_n fx 3 dX6_writeModes_181 rfl rfl ?_
              refine v_get fx 0 3 inX6 k169 dX6_writeModes_182 rfl rfl (by decide) rfl rfl rfl ?_
              refine v_callV (As := []) (rest := [.int (iI (a1 - rs1)), .ref h0]) fx [6] [0, 1, 2, 3, 4, 5] [(td, ob 5 [.ref r, .int (iI w), .int (iI (x - 1)), .int (iI nx), .int (iI a0), .int (iI bk)])] [(h0, ob 6 [.ref r, .int (iI w), .ref o, .ref td]), (r, ob 2 [.ref rs, .ref it, .int (iI c)]), (rs, aI g 27 fs), (it, aI g m fi), (o, ob 0 [.ref b2_20, .int (iI cm), .int (iI pl), .int (iI tu)]), (b2_20, aB g n2_21 f2_22)] 0 0 (c_X5_isBlack l g td r w (x - 1) nx a0 bk (by first | omega | decide | assumption)) dX6_writeModes_185 k732 k733 k734 k52 k735 ykX5_isBlack rfl rfl rfl rfl rfl rfl rfl rfl (nl rfl) ⟨nl rfl, nl rfl⟩ ⟨(by show (cl + kc_18) + 0 ≤ 8200; omega), (by show (sl + ks_19) + 0 ≤ 800000; omega)⟩ rfl (fun v9 w9 hu => ?_)
              obtain ⟨rfl, rfl⟩ := hu
              refine v_is (wn := [(h0, ob 6 [.ref r, .int (iI w), .ref o, .ref td]), (r, ob 2 [.ref rs, .ref it, .int (iI c)]), (rs, aI g 27 fs), (it, aI g m fi), (o, ob 0 [.ref b2_20, .int (iI cm), .int (iI pl), .int (iI tu)]), (b2_20, aB g n2_21 f2_22), (td, ob 5 [.ref r, .int (iI w), .int (iI (x - 1)), .int (iI nx), .int (iI a0), .int (iI bk)])]) (cn := cl + kc_18) (sn := sl + ks_19) (sn2 := [.int (iI bk), .int (iI (a1 - rs1)), .ref h0]) rfl rfl rfl rfl ?_
              refine v_callVE (As := [.int (iI (a1 - rs1)), .int (iI bk)]) (rest := []) fx [0, 4, 5] [1, 2, 3, 6] [(h0, ob 6 [.ref r, .int (iI w), .ref o, .ref td]), (o, ob 0 [.ref b2_20, .int (iI cm), .int (iI pl), .int (iI tu)]), (b2_20, aB g n2_21 f2_22)] [(r, ob 2 [.ref rs, .ref it, .int (iI c)]), (rs, aI g 27 fs), (it, aI g m fi), (td, ob 5 [.ref r, .int (iI w), .int (iI (x - 1)), .int (iI nx), .int (iI a0), .int (iI bk)])] 2 0 (c_X6_writeRun_e l g h0 r o td w b2_20 n2_21 f2_22 cm pl tu (a1 - rs1) bk ((T ++ P) ++ codeB (z_17)) (by first | omega | decide | assumption) (by assumption) (by first | omega | decide | assumption) (by first | omega | decide | assumption) (by first | omega | decide | assumption) (by exact hEn) (by assumption)) dX6_writeModes_188 k736 k738 k9 k51 k739 ykX6_writeRun rfl rfl rfl rfl rfl rfl rfl rfl (nl rfl) ⟨nl rfl, nl rfl⟩ ⟨(by show (cl + kc_18) + 4070 ≤ 8200; omega), (by show (sl + ks_19) + 530000 ≤ 800000; omega)⟩ rfl (fun v9 w9 kc_30 ks_31 hu => ?_)
              obtain ⟨b2_32, n2_33, f2_34, cn1, rfl, rfl, u_35, u_36, u_37, u_38, u_39⟩ := hu
              refine v_is (wn := [(r, ob 2 [.ref rs, .ref it, .int (iI c)]), (rs, aI g 27 fs), (it, aI g m fi), (td, ob 5 [.ref r, .int (iI w), .int (iI (x - 1)), .int (iI nx), .int (iI a0), .int (iI bk)]), (h0, ob 6 [.ref r, .int (iI w), .ref o, .ref td]), (o, ob 0 [.ref b2_32, .int (iI cn1), .int (iI pl), .int (iI tu)]), (b2_32, aB g n2_33 f2_34)]) (cn := cl + kc_18 + kc_30) (sn := sl + ks_19 + ks_31) (sn2 := []) rfl rfl rfl rfl ?_
              have hw1 := u_38
              have hEn1 := u_39
              have hbr := bgt_run (k1 := cn1 - cm) (bk := bk) (w := w) (by omega) hrs ha1 (by omega) (by omega)
              refine v_aload_n fx 3 dX6_writeModes_191 rfl rfl ?_
              refine v_iload fx 0 dX6_writeModes_192 rfl rfl ?_
              refine v_iload fx 2 dX6_writeModes_194 rfl rfl ?_
              refine v_isub fx (a2 - a1) dX6_writeModes_196 (by rfl) rfl ?_
              refine v_aload_n fx 3 dX6_writeModes_197 rfl rfl ?_
              refine v_get fx 4 3 inX6 k169 dX6_writeModes_198 rfl rfl (by decide) rfl rfl rfl ?_
              refine v_callV (As := []) (rest := [.int (iI (a2 - a1)), .ref h0]) fx [3] [0, 1, 2, 4, 5, 6] [(td, ob 5 [.ref r, .int (iI w), .int (iI (x - 1)), .int (iI nx), .int (iI a0), .int (iI bk)])] [(r, ob 2 [.ref rs, .ref it, .int (iI c)]), (rs, aI g 27 fs), (it, aI g m fi), (h0, ob 6 [.ref r, .int (iI w), .ref o, .ref td]), (o, ob 0 [.ref b2_32, .int (iI cn1), .int (iI pl), .int (iI tu)]), (b2_32, aB g n2_33 f2_34)] 0 0 (c_X5_isBlack l g td r w (x - 1) nx a0 bk (by first | omega | decide | assumption)) dX6_writeModes_201 k732 k733 k734 k52 k735 ykX5_isBlack rfl rfl rfl rfl rfl rfl rfl rfl (nl rfl) ⟨nl rfl, nl rfl⟩ ⟨(by show (cl + kc_18 + kc_30) + 0 ≤ 8200; omega), (by show (sl + ks_19 + ks_31) + 0 ≤ 800000; omega)⟩ rfl (fun v9 w9 hu => ?_)
              obtain ⟨rfl, rfl⟩ := hu
              refine v_is (wn := [(r, ob 2 [.ref rs, .ref it, .int (iI c)]), (rs, aI g 27 fs), (it, aI g m fi), (h0, ob 6 [.ref r, .int (iI w), .ref o, .ref td]), (o, ob 0 [.ref b2_32, .int (iI cn1), .int (iI pl), .int (iI tu)]), (b2_32, aB g n2_33 f2_34), (td, ob 5 [.ref r, .int (iI w), .int (iI (x - 1)), .int (iI nx), .int (iI a0), .int (iI bk)])]) (cn := cl + kc_18 + kc_30) (sn := sl + ks_19 + ks_31) (sn2 := [.int (iI bk), .int (iI (a2 - a1)), .ref h0]) rfl rfl rfl rfl ?_
              refine v_if_ne fx 211 dX6_writeModes_204 (by decide) rfl (by omega) (fun h_40 => ?_) (fun h_40 => ?_)
              ·
                refine v_iconst fx dX6_writeModes_211 rfl ?_
                refine v_callVE (As := [.int (iI (a2 - a1)), .int (iI 0)]) (rest := []) fx [3, 4, 5] [0, 1, 2, 6] [(h0, ob 6 [.ref r, .int (iI w), .ref o, .ref td]), (o, ob 0 [.ref b2_32, .int (iI cn1), .int (iI pl), .int (iI tu)]), (b2_32, aB g n2_33 f2_34)] [(r, ob 2 [.ref rs, .ref it, .int (iI c)]), (rs, aI g 27 fs), (it, aI g m fi), (td, ob 5 [.ref r, .int (iI w), .int (iI (x - 1)), .int (iI nx), .int (iI a0), .int (iI bk)])] 2 0 (c_X6_writeRun_e l g h0 r o td w b2_32 n2_33 f2_34 cn1 pl tu (a2 - a1) 0 (((T ++ P) ++ codeB (z_17)) ++ runS (a1 - rs1) (bk)) (by first | omega | decide | assumption) (by assumption) (by first | omega | decide | assumption) (by first | omega | decide | assumption) (by first | omega | decide | assumption) (by exact hEn1) (by assumption)) dX6_writeModes_212 k736 k738 k9 k51 k739 ykX6_writeRun rfl rfl rfl rfl rfl rfl rfl rfl (nl rfl) ⟨nl rfl, nl rfl⟩ ⟨(by show (cl + kc_18 + kc_30) + 4070 ≤ 8200; omega), (by show (sl + ks_19 + ks_31) + 530000 ≤ 800000; omega)⟩ rfl (fun v9 w9 kc_41 ks_42 hu => ?_)
                obtain ⟨b2_43, n2_44, f2_45, cn2, rfl, rfl, u_46, u_47, u_48, u_49, u_50⟩ := hu
                refine v_is (wn := [(r, ob 2 [.ref rs, .ref it, .int (iI c)]), (rs, aI g 27 fs), (it, aI g m fi), (td, ob 5 [.ref r, .int (iI w), .int (iI (x - 1)), .int (iI nx), .int (iI a0), .int (iI bk)]), (h0, ob 6 [.ref r, .int (iI w), .ref o, .ref td]), (o, ob 0 [.ref b2_43, .int (iI cn2), .int (iI pl), .int (iI tu)]), (b2_43, aB g n2_44 f2_45)]) (cn := cl + kc_18 + kc_30 + kc_41) (sn := sl + ks_19 + ks_31 + ks_42) (sn2 := []) rfl rfl rfl rfl ?_
                have hw2 := u_49
                have hEn2 := u_50
                have hPn := PreT_hor hi12_9 (by omega) hmA hmB hea hea2 hq1 hq2 (by omega) (by omega) hmo (z1 := a1 - rs1) (by rw [rs0_of hrs]) rfl (z2 := a2 - a1) rfl (g2 := 0) (by omega)
                rw [List.append_assoc, List.append_assoc, List.append_assoc] at hEn2
                rw [List.append_assoc, List.append_assoc] at hPn
                refine v_aload_n fx 3 dX6_writeModes_215 rfl rfl ?_
                refine v_get fx 4 3 inX6 k169 dX6_writeModes_216 rfl rfl (by decide) rfl rfl rfl ?_
                refine v_iload fx 0 dX6_writeModes_219 rfl rfl ?_
                refine v_callV (As := [.int (iI a2)]) (rest := []) fx [3, 0, 1, 2] [4, 5, 6] [(td, ob 5 [.ref r, .int (iI w), .int (iI (x - 1)), .int (iI nx), .int (iI a0), .int (iI bk)]), (r, ob 2 [.ref rs, .ref it, .int (iI c)]), (rs, aI g 27 fs), (it, aI g m fi)] [(h0, ob 6 [.ref r, .int (iI w), .ref o, .ref td]), (o, ob 0 [.ref b2_43, .int (iI cn2), .int (iI pl), .int (iI tu)]), (b2_43, aB g n2_44 f2_45)] 1 0 (c_X5_moveTo_e l g td r w (x - 1) nx a0 bk rs it m c F fs fi a2 (by exact hp2) (by exact hp3) (by first | omega | decide | assumption) (by first | omega | decide | assumption) (by first | omega | decide | assumption) (by first | omega | decide | assumption) (by first | omega | decide | assumption) (by first | omega | decide | assumption)) dX6_writeModes_221 k714 k715 k716 k52 k717 ykX5_moveTo rfl rfl rfl rfl rfl rfl rfl rfl (nl rfl) ⟨nl rfl, nl rfl⟩ ⟨(by show (cl + kc_18 + kc_30 + kc_41) + 0 ≤ 8200; omega), (by show (sl + ks_19 + ks_31 + ks_42) + 0 ≤ 800000; omega)⟩ rfl (fun v9 w9 hu => ?_)
                obtain ⟨x2_51, rfl, rfl, u_52, u_53, u_54⟩ := hu
                refine v_is (wn := [(h0, ob 6 [.ref r, .int (iI w), .ref o, .ref td]), (o, ob 0 [.ref b2_43, .int (iI cn2), .int (iI pl), .int (iI tu)]), (b2_43, aB g n2_44 f2_45), (td, ob 5 [.ref r, .int (iI w), .int (iI (x - 1)), .int (iI x2_51), .int (iI a2), .int (iI bk)]), (r, ob 2 [.ref rs, .ref it, .int (iI c)]), (rs, aI g 27 fs), (it, aI g m fi)]) (cn := cl + kc_18 + kc_30 + kc_41) (sn := sl + ks_19 + ks_31 + ks_42) (sn2 := []) rfl rfl rfl rfl ?_
                have hbt := bgt_hor (k1 := cn1 - cm) (k2 := cn2 - cn1) (bk := bk) (by omega) hrs ha1 ha2 (by omega) (by omega) (by omega)
                have hTw : TLw w F fi x (k + 2) a2 := by rw [hea2]; exact TLw_next2 hp3 hp4 hi12_5 hTl (by omega) (by omega)
                refine v_iinc fx 5 (k + 2) [(2, .int (iI (k + 2))), (6, .int (iI a2)), (5, .int (iI (a1 - q1))), (4, .int (iI a1)), (0, .ref h0), (1, .int (iI x)), (3, .int (iI i))] dX6_writeModes_224 rfl (by omega) (by decide) rfl rfl ?_
                refine v_iinc fx 6 (i + 1) [(3, .int (iI (i + 1))), (2, .int (iI (k + 2))), (6, .int (iI a2)), (5, .int (iI (a1 - q1))), (4, .int (iI a1)), (0, .ref h0), (1, .int (iI x))] dX6_writeModes_227 rfl (by omega) (by decide) rfl rfl ?_
                refine v_goto fx 12 dX6_writeModes_230 (by decide) ?_
                refine v_ws [0, 1, 2, 4, 5, 6, 3] [(h0, ob 6 [.ref r, .int (iI w), .ref o, .ref td]), (o, ob 0 [.ref b2_43, .int (iI cn2), .int (iI pl), .int (iI tu)]), (b2_43, aB g n2_44 f2_45), (r, ob 2 [.ref rs, .ref it, .int (iI c)]), (rs, aI g 27 fs), (it, aI g m fi), (td, ob 5 [.ref r, .int (iI w), .int (iI (x - 1)), .int (iI x2_51), .int (iI a2), .int (iI bk)])] rfl rfl ?_
                refine v_lv [5, 6, 1, 0] [(0, .ref h0), (1, .int (iI x)), (2, .int (iI (k + 2))), (3, .int (iI (i + 1)))] rfl ?_
                exact ihL12 (i + 1) (k + 2) x2_51 a2 bk (P ++ (codeB z_17 ++ ((runS (a1 - rs1) (bk)) ++ runS (a2 - a1) (0)))) b2_43 n2_44 f2_45 cn2 (cl + kc_18 + kc_30 + kc_41) (sl + ks_19 + ks_31 + ks_42) (by assumption) (by omega) (by omega) (by omega) (by assumption) (by assumption) (by omega) (by omega) (by assumption) (by exact hPn) (by assumption) (by exact hTw) (by omega)
              ·
                refine v_iconst fx dX6_writeModes_207 rfl ?_
                refine v_goto fx 212 dX6_writeModes_208 (by decide) ?_
                refine v_callVE (As := [.int (iI (a2 - a1)), .int (iI 1)]) (rest := []) fx [3, 4, 5] [0, 1, 2, 6] [(h0, ob 6 [.ref r, .int (iI w), .ref o, .ref td]), (o, ob 0 [.ref b2_32, .int (iI cn1), .int (iI pl), .int (iI tu)]), (b2_32, aB g n2_33 f2_34)] [(r, ob 2 [.ref rs, .ref it, .int (iI c)]), (rs, aI g 27 fs), (it, aI g m fi), (td, ob 5 [.ref r, .int (iI w), .int (iI (x - 1)), .int (iI nx), .int (iI a0), .int (iI bk)])] 2 0 (c_X6_writeRun_e l g h0 r o td w b2_32 n2_33 f2_34 cn1 pl tu (a2 - a1) 1 (((T ++ P) ++ codeB (z_17)) ++ runS (a1 - rs1) (bk)) (by first | omega | decide | assumption) (by assumption) (by first | omega | decide | assumption) (by first | omega | decide | assumption) (by first | omega | decide | assumption) (by exact hEn1) (by assumption)) dX6_writeModes_212 k736 k738 k9 k51 k739 ykX6_writeRun rfl rfl rfl rfl rfl rfl rfl rfl (nl rfl) ⟨nl rfl, nl rfl⟩ ⟨(by show (cl + kc_18 + kc_30) + 4070 ≤ 8200; omega), (by show (sl + ks_19 + ks_31) + 530000 ≤ 800000; omega)⟩ rfl (fun v9 w9 kc_55 ks_56 hu => ?_)
                obtain ⟨b2_57, n2_58, f2_59, cn2, rfl, rfl, u_60, u_61, u_62, u_63, u_64⟩ := hu
                refine v_is (wn := [(r, ob 2 [.ref rs, .ref it, .int (iI c)]), (rs, aI g 27 fs), (it, aI g m fi), (td, ob 5 [.ref r, .int (iI w), .int (iI (x - 1)), .int (iI nx), .int (iI a0), .int (iI bk)]), (h0, ob 6 [.ref r, .int (iI w), .ref o, .ref td]), (o, ob 0 [.ref b2_57, .int (iI cn2), .int (iI pl), .int (iI tu)]), (b2_57, aB g n2_58 f2_59)]) (cn := cl + kc_18 + kc_30 + kc_55) (sn := sl + ks_19 + ks_31 + ks_56) (sn2 := []) rfl rfl rfl rfl ?_
                have hw2 := u_63
                have hEn2 := u_64
                have hPn := PreT_hor hi12_9 (by omega) hmA hmB hea hea2 hq1 hq2 (by omega) (by omega) hmo (z1 := a1 - rs1) (by rw [rs0_of hrs]) rfl (z2 := a2 - a1) rfl (g2 := 1) (by omega)
                rw [List.append_assoc, List.append_assoc, List.append_assoc] at hEn2
                rw [List.append_assoc, List.append_assoc] at hPn
                refine v_aload_n fx 3 dX6_writeModes_215 rfl rfl ?_
                refine v_get fx 4 3 inX6 k169 dX6_writeModes_216 rfl rfl (by decide) rfl rfl rfl ?_
                refine v_iload fx 0 dX6_writeModes_219 rfl rfl ?_
                refine v_callV (As := [.int (iI a2)]) (rest := []) fx [3, 0, 1, 2] [4, 5, 6] [(td, ob 5 [.ref r, .int (iI w), .int (iI (x - 1)), .int (iI nx), .int (iI a0), .int (iI bk)]), (r, ob 2 [.ref rs, .ref it, .int (iI c)]), (rs, aI g 27 fs), (it, aI g m fi)] [(h0, ob 6 [.ref r, .int (iI w), .ref o, .ref td]), (o, ob 0 [.ref b2_57, .int (iI cn2), .int (iI pl), .int (iI tu)]), (b2_57, aB g n2_58 f2_59)] 1 0 (c_X5_moveTo_e l g td r w (x - 1) nx a0 bk rs it m c F fs fi a2 (by exact hp2) (by exact hp3) (by first | omega | decide | assumption) (by first | omega | decide | assumption) (by first | omega | decide | assumption) (by first | omega | decide | assumption) (by first | omega | decide | assumption) (by first | omega | decide | assumption)) dX6_writeModes_221 k714 k715 k716 k52 k717 ykX5_moveTo rfl rfl rfl rfl rfl rfl rfl rfl (nl rfl) ⟨nl rfl, nl rfl⟩ ⟨(by show (cl + kc_18 + kc_30 + kc_55) + 0 ≤ 8200; omega), (by show (sl + ks_19 + ks_31 + ks_56) + 0 ≤ 800000; omega)⟩ rfl (fun v9 w9 hu => ?_)
                obtain ⟨x2_65, rfl, rfl, u_66, u_67, u_68⟩ := hu
                refine v_is (wn := [(h0, ob 6 [.ref r, .int (iI w), .ref o, .ref td]), (o, ob 0 [.ref b2_57, .int (iI cn2), .int (iI pl), .int (iI tu)]), (b2_57, aB g n2_58 f2_59), (td, ob 5 [.ref r, .int (iI w), .int (iI (x - 1)), .int (iI x2_65), .int (iI a2), .int (iI bk)]), (r, ob 2 [.ref rs, .ref it, .int (iI c)]), (rs, aI g 27 fs), (it, aI g m fi)]) (cn := cl + kc_18 + kc_30 + kc_55) (sn := sl + ks_19 + ks_31 + ks_56) (sn2 := []) rfl rfl rfl rfl ?_
                have hbt := bgt_hor (k1 := cn1 - cm) (k2 := cn2 - cn1) (bk := bk) (by omega) hrs ha1 ha2 (by omega) (by omega) (by omega)
                have hTw : TLw w F fi x (k + 2) a2 := by rw [hea2]; exact TLw_next2 hp3 hp4 hi12_5 hTl (by omega) (by omega)
                refine v_iinc fx 5 (k + 2) [(2, .int (iI (k + 2))), (6, .int (iI a2)), (5, .int (iI (a1 - q1))), (4, .int (iI a1)), (0, .ref h0), (1, .int (iI x)), (3, .int (iI i))] dX6_writeModes_224 rfl (by omega) (by decide) rfl rfl ?_
                refine v_iinc fx 6 (i + 1) [(3, .int (iI (i + 1))), (2, .int (iI (k + 2))), (6, .int (iI a2)), (5, .int (iI (a1 - q1))), (4, .int (iI a1)), (0, .ref h0), (1, .int (iI x))] dX6_writeModes_227 rfl (by omega) (by decide) rfl rfl ?_
                refine v_goto fx 12 dX6_writeModes_230 (by decide) ?_
                refine v_ws [0, 1, 2, 4, 5, 6, 3] [(h0, ob 6 [.ref r, .int (iI w), .ref o, .ref td]), (o, ob 0 [.ref b2_57, .int (iI cn2), .int (iI pl), .int (iI tu)]), (b2_57, aB g n2_58 f2_59), (r, ob 2 [.ref rs, .ref it, .int (iI c)]), (rs, aI g 27 fs), (it, aI g m fi), (td, ob 5 [.ref r, .int (iI w), .int (iI (x - 1)), .int (iI x2_65), .int (iI a2), .int (iI bk)])] rfl rfl ?_
                refine v_lv [5, 6, 1, 0] [(0, .ref h0), (1, .int (iI x)), (2, .int (iI (k + 2))), (3, .int (iI (i + 1)))] rfl ?_
                exact ihL12 (i + 1) (k + 2) x2_65 a2 bk (P ++ (codeB z_17 ++ ((runS (a1 - rs1) (bk)) ++ runS (a2 - a1) (1)))) b2_57 n2_58 f2_59 cn2 (cl + kc_18 + kc_30 + kc_55) (sl + ks_19 + ks_31 + ks_56) (by assumption) (by omega) (by omega) (by omega) (by assumption) (by assumption) (by omega) (by omega) (by assumption) (by exact hPn) (by assumption) (by exact hTw) (by omega)
            ·
              refine v_iload fx 0 dX6_writeModes_105 rfl rfl ?_
              refine v_iconst fx dX6_writeModes_107 rfl ?_
              refine v_icmp_gt fx 141 dX6_writeModes_108 (by decide) rfl (by omega) (by omega) (fun h_69 => ?_) (fun h_69 => ?_)
              ·
                refine v_aload_n fx 2 dX6_writeModes_141 rfl rfl ?_
                refine v_get fx 0 0 inX6 k166 dX6_writeModes_142 rfl rfl (by decide) rfl rfl rfl ?_
                refine v_iload_n fx 3 dX6_writeModes_145 rfl rfl ?_
                refine v_iload_n fx 4 dX6_writeModes_146 rfl rfl ?_
                refine v_iconst fx dX6_writeModes_147 rfl ?_
                refine v_iadd fx (k + 1) dX6_writeModes_148 (by rfl) rfl ?_
                refine v_aload_n fx 2 dX6_writeModes_149 rfl rfl ?_
                refine v_get fx 0 1 inX6 k167 dX6_writeModes_150 rfl rfl (by decide) rfl rfl rfl ?_
                refine v_callV (As := [.int (iI x), .int (iI (k + 1)), .int (iI w)]) (rest := []) fx [4, 5, 6] [0, 1, 2, 3] [(r, ob 2 [.ref rs, .ref it, .int (iI c)]), (rs, aI g 27 fs), (it, aI g m fi)] [(h0, ob 6 [.ref r, .int (iI w), .ref o, .ref td]), (o, ob 0 [.ref b1, .int (iI c1), .int (iI pl), .int (iI tu)]), (b1, aB g n1 f1), (td, ob 5 [.ref r, .int (iI w), .int (iI (x - 1)), .int (iI nx), .int (iI a0), .int (iI bk)])] 3 0 (c_X2_item l g r rs it m c F fs fi x (k + 1) w (by first | omega | decide | assumption) (by omega) (by omega) (by omega)) dX6_writeModes_153 k685 k686 k687 k49 k688 ykX2_item rfl rfl rfl rfl rfl rfl rfl rfl (nl rfl) ⟨nl rfl, nl rfl⟩ ⟨(by show cl + 0 ≤ 8200; omega), (by show sl + 0 ≤ 800000; omega)⟩ rfl (fun v9 w9 hu => ?_)
                obtain ⟨a2, rfl, rfl, u_70, u_71⟩ := hu
                refine v_is (wn := [(h0, ob 6 [.ref r, .int (iI w), .ref o, .ref td]), (o, ob 0 [.ref b1, .int (iI c1), .int (iI pl), .int (iI tu)]), (b1, aB g n1 f1), (td, ob 5 [.ref r, .int (iI w), .int (iI (x - 1)), .int (iI nx), .int (iI a0), .int (iI bk)]), (r, ob 2 [.ref rs, .ref it, .int (iI c)]), (rs, aI g 27 fs), (it, aI g m fi)]) (cn := cl) (sn := sl) (sn2 := [.int (iI a2)]) rfl rfl rfl rfl ?_
                have ha2 := a2_of hp3 hp4 hi12_5 (by omega) (by omega)
                rw [← hea, ← u_70] at ha2
                have hea2 := u_70
                have hTx : TI F fi x (k + 2) a2 := by
                  have h1 := TI_next hp3 hp4 (TI_next hp3 hp4 hi12_5 (by omega)) (by omega)
                  rw [← u_70, show k + 1 + 1 = k + 2 by omega] at h1
                  exact h1
                refine v_istore fx [(6, .int (iI a2)), (5, .int (iI (a1 - q1))), (4, .int (iI a1)), (0, .ref h0), (1, .int (iI x)), (2, .int (iI k)), (3, .int (iI i))] dX6_writeModes_156 (by decide) rfl rfl ?_
                refine v_aload_n fx 3 dX6_writeModes_158 rfl rfl ?_
                refine v_get fx 0 2 inX6 k168 dX6_writeModes_159 rfl rfl (by decide) rfl rfl rfl ?_
                refine v_getsN fx 3 (by decide) n702 dX6_writeModes_162 rfl ?_
                refine v_iconst fx dX6_writeModes_165 rfl ?_
                refine v_tald fx 3 (by first | decide | omega) (by first | decide | omega) dX6_writeModes_166 rfl ?_
                refine v_any (fun z_72 hz_72 ez_72 => ?_)
                have htm := tabm_at (x := 1) (by omega) ez_72 hz_72
                have hmo := mode_1 ez_72 hz_72
                refine v_callVE (As := [.int (iI z_72)]) (rest := []) fx [1, 2] [0, 3, 4, 5, 6] [(o, ob 0 [.ref b1, .int (iI c1), .int (iI pl), .int (iI tu)]), (b1, aB g n1 f1)] [(h0, ob 6 [.ref r, .int (iI w), .ref o, .ref td]), (td, ob 5 [.ref r, .int (iI w), .int (iI (x - 1)), .int (iI nx), .int (iI a0), .int (iI bk)]), (r, ob 2 [.ref rs, .ref it, .int (iI c)]), (rs, aI g 27 fs), (it, aI g m fi)] 1 0 (c_X0_addCode_e l g o b1 n1 f1 c1 pl tu z_72 (T ++ P) (by first | omega | decide | assumption) (by first | assumption | exact hi12_0) (by first | omega | decide | assumption) (by first | omega | decide | assumption) (by exact hi12_8) (by assumption)) dX6_writeModes_167 k703 k704 k705 k50 k706 ykX0_addCode rfl rfl rfl rfl rfl rfl rfl rfl (nl rfl) ⟨nl rfl, nl rfl⟩ ⟨(by show cl + 1 ≤ 8200; omega), (by show sl + 260000 ≤ 800000; omega)⟩ rfl (fun v9 w9 kc_73 ks_74 hu => ?_)
                obtain ⟨b2_75, n2_76, f2_77, cm, rfl, rfl, u_78, u_79, u_80, u_81, u_82, u_83⟩ := hu
                refine v_is (wn := [(h0, ob 6 [.ref r, .int (iI w), .ref o, .ref td]), (td, ob 5 [.ref r, .int (iI w), .int (iI (x - 1)), .int (iI nx), .int (iI a0), .int (iI bk)]), (r, ob 2 [.ref rs, .ref it, .int (iI c)]), (rs, aI g 27 fs), (it, aI g m fi), (o, ob 0 [.ref b2_75, .int (iI cm), .int (iI pl), .int (iI tu)]), (b2_75, aB g n2_76 f2_77)]) (cn := cl + kc_73) (sn := sl + ks_74) (sn2 := []) rfl rfl rfl rfl ?_
                have hEn := u_83
                refine v_aload_n fx 3 dX6_writeModes_170 rfl rfl ?_
                refine v_iload fx 2 dX6_writeModes_171 rfl rfl ?_
                refine v_aload_n fx 3 dX6_writeModes_173 rfl rfl ?_
                refine v_get fx 0 3 inX6 k169 dX6_writeModes_174 rfl rfl (by decide) rfl rfl rfl ?_
                refine v_callV (As := []) (rest := [.int (iI a1), .ref h0]) fx [1] [0, 2, 3, 4, 5, 6] [(td, ob 5 [.ref r, .int (iI w), .int (iI (x - 1)), .int (iI nx), .int (iI a0), .int (iI bk)])] [(h0, ob 6 [.ref r, .int (iI w), .ref o, .ref td]), (r, ob 2 [.ref rs, .ref it, .int (iI c)]), (rs, aI g 27 fs), (it, aI g m fi), (o, ob 0 [.ref b2_75, .int (iI cm), .int (iI pl), .int (iI tu)]), (b2_75, aB g n2_76 f2_77)] 0 0 (c_X5_runStart l g td r w (x - 1) nx a0 bk (by first | omega | decide | assumption)) dX6_writeModes_177 k727 k728 k729 k52 k730 ykX5_runStart rfl rfl rfl rfl rfl rfl rfl rfl (nl rfl) ⟨nl rfl, nl rfl⟩ ⟨(by show (cl + kc_73) + 0 ≤ 8200; omega), (by show (sl + ks_74) + 0 ≤ 800000; omega)⟩ rfl (fun v9 w9 hu => ?_)
                obtain ⟨rs1, rfl, rfl, u_84⟩ := hu
                refine v_is (wn := [(h0, ob 6 [.ref r, .int (iI w), .ref o, .ref td]), (r, ob 2 [.ref rs, .ref it, .int (iI c)]), (rs, aI g 27 fs), (it, aI g m fi), (o, ob 0 [.ref b2_75, .int (iI cm), .int (iI pl), .int (iI tu)]), (b2_75, aB g n2_76 f2_77), (td, ob 5 [.ref r, .int (iI w), .int (iI (x - 1)), .int (iI nx), .int (iI a0), .int (iI bk)])]) (cn := cl + kc_73) (sn := sl + ks_74) (sn2 := [.int (iI rs1), .int (iI a1), .ref h0]) rfl rfl rfl rfl ?_
                have hrs := u_84
                refine v_isub fx (a1 - rs1) dX6_writeModes_180 (by rfl) rfl ?_
                refine v_aload_n fx 3 dX6_writeModes_181 rfl rfl ?_
                refine v_get fx 0 3 inX6 k169 dX6_writeModes_182 rfl rfl (by decide) rfl rfl rfl ?_
                refine v_callV (As := []) (rest := [.int (iI (a1 - rs1)), .ref h0]) fx [6] [0, 1, 2, 3, 4, 5] [(td, ob 5 [.ref r, .int (iI w), .int (iI (x - 1)), .int (iI nx), .int (iI a0), .int (iI bk)])] [(h0, ob 6 [.ref r, .int (iI w), .ref o, .ref td]), (r, ob 2 [.ref rs, .ref it, .int (iI c)]), (rs, aI g 27 fs), (it, aI g m fi), (o, ob 0 [.ref b2_75, .int (iI cm), .int (iI pl), .int (iI tu)]), (b2_75, aB g n2_76 f2_77)] 0 0 (c_X5_isBlack l g td r w (x - 1) nx a0 bk (by first | omega | decide | assumption)) dX6_writeModes_185 k732 k733 k734 k52 k735 ykX5_isBlack rfl rfl rfl rfl rfl rfl rfl rfl (nl rfl) ⟨nl rfl, nl rfl⟩ ⟨(by show (cl + kc_73) + 0 ≤ 8200; omega), (by show (sl + ks_74) + 0 ≤ 800000; omega)⟩ rfl (fun v9 w9 hu => ?_)
                obtain ⟨rfl, rfl⟩ := hu
                refine v_is (wn := [(h0, ob 6 [.ref r, .int (iI w), .ref o, .ref td]), (r, ob 2 [.ref rs, .ref it, .int (iI c)]), (rs, aI g 27 fs), (it, aI g m fi), (o, ob 0 [.ref b2_75, .int (iI cm), .int (iI pl), .int (iI tu)]), (b2_75, aB g n2_76 f2_77), (td, ob 5 [.ref r, .int (iI w), .int (iI (x - 1)), .int (iI nx), .int (iI a0), .int (iI bk)])]) (cn := cl + kc_73) (sn := sl + ks_74) (sn2 := [.int (iI bk), .int (iI (a1 - rs1)), .ref h0]) rfl rfl rfl rfl ?_
                refine v_callVE (As := [.int (iI (a1 - rs1)), .int (iI bk)]) (rest := []) fx [0, 4, 5] [1, 2, 3, 6] [(h0, ob 6 [.ref r, .int (iI w), .ref o, .ref td]), (o, ob 0 [.ref b2_75, .int (iI cm), .int (iI pl), .int (iI tu)]), (b2_75, aB g n2_76 f2_77)] [(r, ob 2 [.ref rs, .ref it, .int (iI c)]), (rs, aI g 27 fs), (it, aI g m fi), (td, ob 5 [.ref r, .int (iI w), .int (iI (x - 1)), .int (iI nx), .int (iI a0), .int (iI bk)])] 2 0 (c_X6_writeRun_e l g h0 r o td w b2_75 n2_76 f2_77 cm pl tu (a1 - rs1) bk ((T ++ P) ++ codeB (z_72)) (by first | omega | decide | assumption) (by assumption) (by first | omega | decide | assumption) (by first | omega | decide | assumption) (by first | omega | decide | assumption) (by exact hEn) (by assumption)) dX6_writeModes_188 k736 k738 k9 k51 k739 ykX6_writeRun rfl rfl rfl rfl rfl rfl rfl rfl (nl rfl) ⟨nl rfl, nl rfl⟩ ⟨(by show (cl + kc_73) + 4070 ≤ 8200; omega), (by show (sl + ks_74) + 530000 ≤ 800000; omega)⟩ rfl (fun v9 w9 kc_85 ks_86 hu => ?_)
                obtain ⟨b2_87, n2_88, f2_89, cn1, rfl, rfl, u_90, u_91, u_92, u_93, u_94⟩ := hu
                refine v_is (wn := [(r, ob 2 [.ref rs, .ref it, .int (iI c)]), (rs, aI g 27 fs), (it, aI g m fi), (td, ob 5 [.ref r, .int (iI w), .int (iI (x - 1)), .int (iI nx), .int (iI a0), .int (iI bk)]), (h0, ob 6 [.ref r, .int (iI w), .ref o, .ref td]), (o, ob 0 [.ref b2_87, .int (iI cn1), .int (iI pl), .int (iI tu)]), (b2_87, aB g n2_88 f2_89)]) (cn := cl + kc_73 + kc_85) (sn := sl + ks_74 + ks_86) (sn2 := []) rfl rfl rfl rfl ?_
                have hw1 := u_93
                have hEn1 := u_94
                have hbr := bgt_run (k1 := cn1 - cm) (bk := bk) (w := w) (by omega) hrs ha1 (by omega) (by omega)
                refine v_aload_n fx 3 dX6_writeModes_191 rfl rfl ?_
                refine v_iload fx 0 dX6_writeModes_192 rfl rfl ?_
                refine v_iload fx 2 dX6_writeModes_194 rfl rfl ?_
                refine v_isub fx (a2 - a1) dX6_writeModes_196 (by rfl) rfl ?_
                refine v_aload_n fx 3 dX6_writeModes_197 rfl rfl ?_
                refine v_get fx 4 3 inX6 k169 dX6_writeModes_198 rfl rfl (by decide) rfl rfl rfl ?_
                refine v_callV (As := []) (rest := [.int (iI (a2 - a1)), .ref h0]) fx [3] [0, 1, 2, 4, 5, 6] [(td, ob 5 [.ref r, .int (iI w), .int (iI (x - 1)), .int (iI nx), .int (iI a0), .int (iI bk)])] [(r, ob 2 [.ref rs, .ref it, .int (iI c)]), (rs, aI g 27 fs), (it, aI g m fi), (h0, ob 6 [.ref r, .int (iI w), .ref o, .ref td]), (o, ob 0 [.ref b2_87, .int (iI cn1), .int (iI pl), .int (iI tu)]), (b2_87, aB g n2_88 f2_89)] 0 0 (c_X5_isBlack l g td r w (x - 1) nx a0 bk (by first | omega | decide | assumption)) dX6_writeModes_201 k732 k733 k734 k52 k735 ykX5_isBlack rfl rfl rfl rfl rfl rfl rfl rfl (nl rfl) ⟨nl rfl, nl rfl⟩ ⟨(by show (cl + kc_73 + kc_85) + 0 ≤ 8200; omega), (by show (sl + ks_74 + ks_86) + 0 ≤ 800000; omega)⟩ rfl (fun v9 w9 hu => ?_)
                obtain ⟨rfl, rfl⟩ := hu
                refine v_is (wn := [(r, ob 2 [.ref rs, .ref it, .int (iI c)]), (rs, aI g 27 fs), (it, aI g m fi), (h0, ob 6 [.ref r, .int (iI w), .ref o, .ref td]), (o, ob 0 [.ref b2_87, .int (iI cn1), .int (iI pl), .int (iI tu)]), (b2_87, aB g n2_88 f2_89), (td, ob 5 [.ref r, .int (iI w), .int (iI (x - 1)), .int (iI nx), .int (iI a0), .int (iI bk)])]) (cn := cl + kc_73 + kc_85) (sn := sl + ks_74 + ks_86) (sn2 := [.int (iI bk), .int (iI (a2 - a1)), .ref h0]) rfl rfl rfl rfl ?_
                refine v_if_ne fx 211 dX6_writeModes_204 (by decide) rfl (by omega) (fun h_95 => ?_) (fun h_95 => ?_)
                ·
                  refine v_iconst fx dX6_writeModes_211 rfl ?_
                  refine v_callVE (As := [.int (iI (a2 - a1)), .int (iI 0)]) (rest := []) fx [3, 4, 5] [0, 1, 2, 6] [(h0, ob 6 [.ref r, .int (iI w), .ref o, .ref td]), (o, ob 0 [.ref b2_87, .int (iI cn1), .int (iI pl), .int (iI tu)]), (b2_87, aB g n2_88 f2_89)] [(r, ob 2 [.ref rs, .ref it, .int (iI c)]), (rs, aI g 27 fs), (it, aI g m fi), (td, ob 5 [.ref r, .int (iI w), .int (iI (x - 1)), .int (iI nx), .int (iI a0), .int (iI bk)])] 2 0 (c_X6_writeRun_e l g h0 r o td w b2_87 n2_88 f2_89 cn1 pl tu (a2 - a1) 0 (((T ++ P) ++ codeB (z_72)) ++ runS (a1 - rs1) (bk)) (by first | omega | decide | assumption) (by assumption) (by first | omega | decide | assumption) (by first | omega | decide | assumption) (by first | omega | decide | assumption) (by exact hEn1) (by assumption)) dX6_writeModes_212 k736 k738 k9 k51 k739 ykX6_writeRun rfl rfl rfl rfl rfl rfl rfl rfl (nl rfl) ⟨nl rfl, nl rfl⟩ ⟨(by show (cl + kc_73 + kc_85) + 4070 ≤ 8200; omega), (by show (sl + ks_74 + ks_86) + 530000 ≤ 800000; omega)⟩ rfl (fun v9 w9 kc_96 ks_97 hu => ?_)
                  obtain ⟨b2_98, n2_99, f2_100, cn2, rfl, rfl, u_101, u_102, u_103, u_104, u_105⟩ := hu
                  refine v_is (wn := [(r, ob 2 [.ref rs, .ref it, .int (iI c)]), (rs, aI g 27 fs), (it, aI g m fi), (td, ob 5 [.ref r, .int (iI w), .int (iI (x - 1)), .int (iI nx), .int (iI a0), .int (iI bk)]), (h0, ob 6 [.ref r, .int (iI w), .ref o, .ref td]), (o, ob 0 [.ref b2_98, .int (iI cn2), .int (iI pl), .int (iI tu)]), (b2_98, aB g n2_99 f2_100)]) (cn := cl + kc_73 + kc_85 + kc_96) (sn := sl + ks_74 + ks_86 + ks_97) (sn2 := []) rfl rfl rfl rfl ?_
                  have hw2 := u_104
                  have hEn2 := u_105
                  have hPn := PreT_hor hi12_9 (by omega) hmA hmB hea hea2 hq1 hq2 (by omega) (by omega) hmo (z1 := a1 - rs1) (by rw [rs0_of hrs]) rfl (z2 := a2 - a1) rfl (g2 := 0) (by omega)
                  rw [List.append_assoc, List.append_assoc, List.append_assoc] at hEn2
                  rw [List.append_assoc, List.append_assoc] at hPn
                  refine v_aload_n fx 3 dX6_writeModes_215 rfl rfl ?_
                  refine v_get fx 4 3 inX6 k169 dX6_writeModes_216 rfl rfl (by decide) rfl rfl rfl ?_
                  refine v_iload fx 0 dX6_writeModes_219 rfl rfl ?_
                  refine v_callV (As := [.int (iI a2)]) (rest := []) fx [3, 0, 1, 2] [4, 5, 6] [(td, ob 5 [.ref r, .int (iI w), .int (iI (x - 1)), .int (iI nx), .int (iI a0), .int (iI bk)]), (r, ob 2 [.ref rs, .ref it, .int (iI c)]), (rs, aI g 27 fs), (it, aI g m fi)] [(h0, ob 6 [.ref r, .int (iI w), .ref o, .ref td]), (o, ob 0 [.ref b2_98, .int (iI cn2), .int (iI pl), .int (iI tu)]), (b2_98, aB g n2_99 f2_100)] 1 0 (c_X5_moveTo_e l g td r w (x - 1) nx a0 bk rs it m c F fs fi a2 (by exact hp2) (by exact hp3) (by first | omega | decide | assumption) (by first | omega | decide | assumption) (by first | omega | decide | assumption) (by first | omega | decide | assumption) (by first | omega | decide | assumption) (by first | omega | decide | assumption)) dX6_writeModes_221 k714 k715 k716 k52 k717 ykX5_moveTo rfl rfl rfl rfl rfl rfl rfl rfl (nl rfl) ⟨nl rfl, nl rfl⟩ ⟨(by show (cl + kc_73 + kc_85 + kc_96) + 0 ≤ 8200; omega), (by show (sl + ks_74 + ks_86 + ks_97) + 0 ≤ 800000; omega)⟩ rfl (fun v9 w9 hu => ?_)
                  obtain ⟨x2_106, rfl, rfl, u_107, u_108, u_109⟩ := hu
                  refine v_is (wn := [(h0, ob 6 [.ref r, .int (iI w), .ref o, .ref td]), (o, ob 0 [.ref b2_98, .int (iI cn2), .int (iI pl), .int (iI tu)]), (b2_98, aB g n2_99 f2_100), (td, ob 5 [.ref r, .int (iI w), .int (iI (x - 1)), .int (iI x2_106), .int (iI a2), .int (iI bk)]), (r, ob 2 [.ref rs, .ref it, .int (iI c)]), (rs, aI g 27 fs), (it, aI g m fi)]) (cn := cl + kc_73 + kc_85 + kc_96) (sn := sl + ks_74 + ks_86 + ks_97) (sn2 := []) rfl rfl rfl rfl ?_
                  have hbt := bgt_hor (k1 := cn1 - cm) (k2 := cn2 - cn1) (bk := bk) (by omega) hrs ha1 ha2 (by omega) (by omega) (by omega)
                  have hTw : TLw w F fi x (k + 2) a2 := by rw [hea2]; exact TLw_next2 hp3 hp4 hi12_5 hTl (by omega) (by omega)
                  refine v_iinc fx 5 (k + 2) [(2, .int (iI (k + 2))), (6, .int (iI a2)), (5, .int (iI (a1 - q1))), (4, .int (iI a1)), (0, .ref h0), (1, .int (iI x)), (3, .int (iI i))] dX6_writeModes_224 rfl (by omega) (by decide) rfl rfl ?_
                  refine v_iinc fx 6 (i + 1) [(3, .int (iI (i + 1))), (2, .int (iI (k + 2))), (6, .int (iI a2)), (5, .int (iI (a1 - q1))), (4, .int (iI a1)), (0, .ref h0), (1, .int (iI x))] dX6_writeModes_227 rfl (by omega) (by decide) rfl rfl ?_
                  refine v_goto fx 12 dX6_writeModes_230 (by decide) ?_
                  refine v_ws [0, 1, 2, 4, 5, 6, 3] [(h0, ob 6 [.ref r, .int (iI w), .ref o, .ref td]), (o, ob 0 [.ref b2_98, .int (iI cn2), .int (iI pl), .int (iI tu)]), (b2_98, aB g n2_99 f2_100), (r, ob 2 [.ref rs, .ref it, .int (iI c)]), (rs, aI g 27 fs), (it, aI g m fi), (td, ob 5 [.ref r, .int (iI w), .int (iI (x - 1)), .int (iI x2_106), .int (iI a2), .int (iI bk)])] rfl rfl ?_
                  refine v_lv [5, 6, 1, 0] [(0, .ref h0), (1, .int (iI x)), (2, .int (iI (k + 2))), (3, .int (iI (i + 1)))] rfl ?_
                  exact ihL12 (i + 1) (k + 2) x2_106 a2 bk (P ++ (codeB z_72 ++ ((runS (a1 - rs1) (bk)) ++ runS (a2 - a1) (0)))) b2_98 n2_99 f2_100 cn2 (cl + kc_73 + kc_85 + kc_96) (sl + ks_74 + ks_86 + ks_97) (by assumption) (by omega) (by omega) (by omega) (by assumption) (by assumption) (by omega) (by omega) (by assumption) (by exact hPn) (by assumption) (by exact hTw) (by omega)
                ·
                  refine v_iconst fx dX6_writeModes_207 rfl ?_
                  refine v_goto fx 212 dX6_writeModes_208 (by decide) ?_
                  refine v_callVE (As := [.int (iI (a2 - a1)), .int (iI 1)]) (rest := []) fx [3, 4, 5] [0, 1, 2, 6] [(h0, ob 6 [.ref r, .int (iI w), .ref o, .ref td]), (o, ob 0 [.ref b2_87, .int (iI cn1), .int (iI pl), .int (iI tu)]), (b2_87, aB g n2_88 f2_89)] [(r, ob 2 [.ref rs, .ref it, .int (iI c)]), (rs, aI g 27 fs), (it, aI g m fi), (td, ob 5 [.ref r, .int (iI w), .int (iI (x - 1)), .int (iI nx), .int (iI a0), .int (iI bk)])] 2 0 (c_X6_writeRun_e l g h0 r o td w b2_87 n2_88 f2_89 cn1 pl tu (a2 - a1) 1 (((T ++ P) ++ codeB (z_72)) ++ runS (a1 - rs1) (bk)) (by first | omega | decide | assumption) (by assumption) (by first | omega | decide | assumption) (by first | omega | decide | assumption) (by first | omega | decide | assumption) (by exact hEn1) (by assumption)) dX6_writeModes_212 k736 k738 k9 k51 k739 ykX6_writeRun rfl rfl rfl rfl rfl rfl rfl rfl (nl rfl) ⟨nl rfl, nl rfl⟩ ⟨(by show (cl + kc_73 + kc_85) + 4070 ≤ 8200; omega), (by show (sl + ks_74 + ks_86) + 530000 ≤ 800000; omega)⟩ rfl (fun v9 w9 kc_110 ks_111 hu => ?_)
                  obtain ⟨b2_112, n2_113, f2_114, cn2, rfl, rfl, u_115, u_116, u_117, u_118, u_119⟩ := hu
                  refine v_is (wn := [(r, ob 2 [.ref rs, .ref it, .int (iI c)]), (rs, aI g 27 fs), (it, aI g m fi), (td, ob 5 [.ref r, .int (iI w), .int (iI (x - 1)), .int (iI nx), .int (iI a0), .int (iI bk)]), (h0, ob 6 [.ref r, .int (iI w), .ref o, .ref td]), (o, ob 0 [.ref b2_112, .int (iI cn2), .int (iI pl), .int (iI tu)]), (b2_112, aB g n2_113 f2_114)]) (cn := cl + kc_73 + kc_85 + kc_110) (sn := sl + ks_74 + ks_86 + ks_111) (sn2 := []) rfl rfl rfl rfl ?_
                  have hw2 := u_118
                  have hEn2 := u_119
                  have hPn := PreT_hor hi12_9 (by omega) hmA hmB hea hea2 hq1 hq2 (by omega) (by omega) hmo (z1 := a1 - rs1) (by rw [rs0_of hrs]) rfl (z2 := a2 - a1) rfl (g2 := 1) (by omega)
                  rw [List.append_assoc, List.append_assoc, List.append_assoc] at hEn2
                  rw [List.append_assoc, List.append_assoc] at hPn
                  refine v_aload_n fx 3 dX6_writeModes_215 rfl rfl ?_
                  refine v_get fx 4 3 inX6 k169 dX6_writeModes_216 rfl rfl (by decide) rfl rfl rfl ?_
                  refine v_iload fx 0 dX6_writeModes_219 rfl rfl ?_
                  refine v_callV (As := [.int (iI a2)]) (rest := []) fx [3, 0, 1, 2] [4, 5, 6] [(td, ob 5 [.ref r, .int (iI w), .int (iI (x - 1)), .int (iI nx), .int (iI a0), .int (iI bk)]), (r, ob 2 [.ref rs, .ref it, .int (iI c)]), (rs, aI g 27 fs), (it, aI g m fi)] [(h0, ob 6 [.ref r, .int (iI w), .ref o, .ref td]), (o, ob 0 [.ref b2_112, .int (iI cn2), .int (iI pl), .int (iI tu)]), (b2_112, aB g n2_113 f2_114)] 1 0 (c_X5_moveTo_e l g td r w (x - 1) nx a0 bk rs it m c F fs fi a2 (by exact hp2) (by exact hp3) (by first | omega | decide | assumption) (by first | omega | decide | assumption) (by first | omega | decide | assumption) (by first | omega | decide | assumption) (by first | omega | decide | assumption) (by first | omega | decide | assumption)) dX6_writeModes_221 k714 k715 k716 k52 k717 ykX5_moveTo rfl rfl rfl rfl rfl rfl rfl rfl (nl rfl) ⟨nl rfl, nl rfl⟩ ⟨(by show (cl + kc_73 + kc_85 + kc_110) + 0 ≤ 8200; omega), (by show (sl + ks_74 + ks_86 + ks_111) + 0 ≤ 800000; omega)⟩ rfl (fun v9 w9 hu => ?_)
                  obtain ⟨x2_120, rfl, rfl, u_121, u_122, u_123⟩ := hu
                  refine v_is (wn := [(h0, ob 6 [.ref r, .int (iI w), .ref o, .ref td]), (o, ob 0 [.ref b2_112, .int (iI cn2), .int (iI pl), .int (iI tu)]), (b2_112, aB g n2_113 f2_114), (td, ob 5 [.ref r, .int (iI w), .int (iI (x - 1)), .int (iI x2_120), .int (iI a2), .int (iI bk)]), (r, ob 2 [.ref rs, .ref it, .int (iI c)]), (rs, aI g 27 fs), (it, aI g m fi)]) (cn := cl + kc_73 + kc_85 + kc_110) (sn := sl + ks_74 + ks_86 + ks_111) (sn2 := []) rfl rfl rfl rfl ?_
                  have hbt := bgt_hor (k1 := cn1 - cm) (k2 := cn2 - cn1) (bk := bk) (by omega) hrs ha1 ha2 (by omega) (by omega) (by omega)
                  have hTw : TLw w F fi x (k + 2) a2 := by rw [hea2]; exact TLw_next2 hp3 hp4 hi12_5 hTl (by omega) (by omega)
                  refine v_iinc fx 5 (k + 2) [(2, .int (iI (k + 2))), (6, .int (iI a2)), (5, .int (iI (a1 - q1))), (4, .int (iI a1)), (0, .ref h0), (1, .int (iI x)), (3, .int (iI i))] dX6_writeModes_224 rfl (by omega) (by decide) rfl rfl ?_
                  refine v_iinc fx 6 (i + 1) [(3, .int (iI (i + 1))), (2, .int (iI (k + 2))), (6, .int (iI a2)), (5, .int (iI (a1 - q1))), (4, .int (iI a1)), (0, .ref h0), (1, .int (iI x))] dX6_writeModes_227 rfl (by omega) (by decide) rfl rfl ?_
                  refine v_goto fx 12 dX6_writeModes_230 (by decide) ?_
                  refine v_ws [0, 1, 2, 4, 5, 6, 3] [(h0, ob 6 [.ref r, .int (iI w), .ref o, .ref td]), (o, ob 0 [.ref b2_112, .int (iI cn2), .int (iI pl), .int (iI tu)]), (b2_112, aB g n2_113 f2_114), (r, ob 2 [.ref rs, .ref it, .int (iI c)]), (rs, aI g 27 fs), (it, aI g m fi), (td, ob 5 [.ref r, .int (iI w), .int (iI (x - 1)), .int (iI x2_120), .int (iI a2), .int (iI bk)])] rfl rfl ?_
                  refine v_lv [5, 6, 1, 0] [(0, .ref h0), (1, .int (iI x)), (2, .int (iI (k + 2))), (3, .int (iI (i + 1)))] rfl ?_
                  exact ihL12 (i + 1) (k + 2) x2_120 a2 bk (P ++ (codeB z_72 ++ ((runS (a1 - rs1) (bk)) ++ runS (a2 - a1) (1)))) b2_112 n2_113 f2_114 cn2 (cl + kc_73 + kc_85 + kc_110) (sl + ks_74 + ks_86 + ks_111) (by assumption) (by omega) (by omega) (by omega) (by assumption) (by assumption) (by omega) (by omega) (by assumption) (by exact hPn) (by assumption) (by exact hTw) (by omega)
              ·
                refine v_aload_n fx 2 dX6_writeModes_111 rfl rfl ?_
                refine v_get fx 0 2 inX6 k168 dX6_writeModes_112 rfl rfl (by decide) rfl rfl rfl ?_
                refine v_getsN fx 3 (by decide) n702 dX6_writeModes_115 rfl ?_
                refine v_iconst fx dX6_writeModes_118 rfl ?_
                refine v_iload fx 0 dX6_writeModes_119 rfl rfl ?_
                refine v_iadd fx (5 + (a1 - q1)) dX6_writeModes_121 (by rfl) rfl ?_
                refine v_tald fx 3 (by first | decide | omega) (by refine ⟨by omega, ?_⟩; show _ < (10 : Int); omega) dX6_writeModes_122 rfl ?_
                refine v_any (fun z_124 hz_124 ez_124 => ?_)
                have htm := tabm_at (x := 5 + (a1 - q1)) (by omega) ez_124 hz_124
                have hmo := mode_v ez_124 hz_124
                refine v_callVE (As := [.int (iI z_124)]) (rest := []) fx [1, 2] [0, 3, 4, 5, 6] [(o, ob 0 [.ref b1, .int (iI c1), .int (iI pl), .int (iI tu)]), (b1, aB g n1 f1)] [(h0, ob 6 [.ref r, .int (iI w), .ref o, .ref td]), (td, ob 5 [.ref r, .int (iI w), .int (iI (x - 1)), .int (iI nx), .int (iI a0), .int (iI bk)]), (r, ob 2 [.ref rs, .ref it, .int (iI c)]), (rs, aI g 27 fs), (it, aI g m fi)] 1 0 (c_X0_addCode_e l g o b1 n1 f1 c1 pl tu z_124 (T ++ P) (by first | omega | decide | assumption) (by first | assumption | exact hi12_0) (by first | omega | decide | assumption) (by first | omega | decide | assumption) (by exact hi12_8) (by assumption)) dX6_writeModes_123 k703 k704 k705 k50 k706 ykX0_addCode rfl rfl rfl rfl rfl rfl rfl rfl (nl rfl) ⟨nl rfl, nl rfl⟩ ⟨(by show cl + 1 ≤ 8200; omega), (by show sl + 260000 ≤ 800000; omega)⟩ rfl (fun v9 w9 kc_125 ks_126 hu => ?_)
                obtain ⟨b2_127, n2_128, f2_129, c2_130, rfl, rfl, u_131, u_132, u_133, u_134, u_135, u_136⟩ := hu
                refine v_is (wn := [(h0, ob 6 [.ref r, .int (iI w), .ref o, .ref td]), (td, ob 5 [.ref r, .int (iI w), .int (iI (x - 1)), .int (iI nx), .int (iI a0), .int (iI bk)]), (r, ob 2 [.ref rs, .ref it, .int (iI c)]), (rs, aI g 27 fs), (it, aI g m fi), (o, ob 0 [.ref b2_127, .int (iI c2_130), .int (iI pl), .int (iI tu)]), (b2_127, aB g n2_128 f2_129)]) (cn := cl + kc_125) (sn := sl + ks_126) (sn2 := []) rfl rfl rfl rfl ?_
                have hEn := EncC_as u_136
                refine v_aload_n fx 2 dX6_writeModes_126 rfl rfl ?_
                refine v_get fx 0 3 inX6 k169 dX6_writeModes_127 rfl rfl (by decide) rfl rfl rfl ?_
                refine v_iload fx 1 dX6_writeModes_130 rfl rfl ?_
                refine v_callV (As := [.int (iI a1)]) (rest := []) fx [1, 2, 3, 4] [0, 5, 6] [(td, ob 5 [.ref r, .int (iI w), .int (iI (x - 1)), .int (iI nx), .int (iI a0), .int (iI bk)]), (r, ob 2 [.ref rs, .ref it, .int (iI c)]), (rs, aI g 27 fs), (it, aI g m fi)] [(h0, ob 6 [.ref r, .int (iI w), .ref o, .ref td]), (o, ob 0 [.ref b2_127, .int (iI c2_130), .int (iI pl), .int (iI tu)]), (b2_127, aB g n2_128 f2_129)] 1 0 (c_X5_turnAt_e l g td r w (x - 1) nx a0 bk rs it m c F fs fi a1 (by exact hp2) (by exact hp3) (by first | omega | decide | assumption) (by first | omega | decide | assumption) (by first | omega | decide | assumption) (by first | omega | decide | assumption) (by first | omega | decide | assumption) (by first | omega | decide | assumption) (by first | omega | decide | assumption)) dX6_writeModes_132 k722 k723 k724 k52 k725 ykX5_turnAt rfl rfl rfl rfl rfl rfl rfl rfl (nl rfl) ⟨nl rfl, nl rfl⟩ ⟨(by show (cl + kc_125) + 0 ≤ 8200; omega), (by show (sl + ks_126) + 0 ≤ 800000; omega)⟩ rfl (fun v9 w9 hu => ?_)
                obtain ⟨x2_137, kk2, rfl, rfl, u_138, u_139, u_140, u_141⟩ := hu
                refine v_is (wn := [(h0, ob 6 [.ref r, .int (iI w), .ref o, .ref td]), (o, ob 0 [.ref b2_127, .int (iI c2_130), .int (iI pl), .int (iI tu)]), (b2_127, aB g n2_128 f2_129), (td, ob 5 [.ref r, .int (iI w), .int (iI (x - 1)), .int (iI x2_137), .int (iI a1), .int (iI kk2)]), (r, ob 2 [.ref rs, .ref it, .int (iI c)]), (rs, aI g 27 fs), (it, aI g m fi)]) (cn := cl + kc_125) (sn := sl + ks_126) (sn2 := []) rfl rfl rfl rfl ?_
                have hbt := bgt_to (a0 := a0) (b := a1) (w := w) (by omega) (by omega) (by omega)
                have hTx : TI F fi x (k + 1) a1 := by rw [hea]; exact TI_next hp3 hp4 hi12_5 (by omega)
                have hPn := PreT_vert hi12_9 (by omega) hmA hmB hea hq1 hq2 (by omega) (by omega) hmo u_140
                have hTw : TLw w F fi x (k + 1) a1 := by rw [hea]; exact TLw_next hp3 hp4 hi12_5 hTl (by omega)
                refine v_iinc fx 4 (k + 1) [(2, .int (iI (k + 1))), (5, .int (iI (a1 - q1))), (4, .int (iI a1)), (0, .ref h0), (1, .int (iI x)), (3, .int (iI i))] dX6_writeModes_135 rfl (by omega) (by decide) rfl rfl ?_
                refine v_goto fx 227 dX6_writeModes_138 (by decide) ?_
                refine v_iinc fx 5 (i + 1) [(3, .int (iI (i + 1))), (2, .int (iI (k + 1))), (5, .int (iI (a1 - q1))), (4, .int (iI a1)), (0, .ref h0), (1, .int (iI x))] dX6_writeModes_227 rfl (by omega) (by decide) rfl rfl ?_
                refine v_goto fx 12 dX6_writeModes_230 (by decide) ?_
                refine v_ws [0, 1, 2, 4, 5, 6, 3] [(h0, ob 6 [.ref r, .int (iI w), .ref o, .ref td]), (o, ob 0 [.ref b2_127, .int (iI c2_130), .int (iI pl), .int (iI tu)]), (b2_127, aB g n2_128 f2_129), (r, ob 2 [.ref rs, .ref it, .int (iI c)]), (rs, aI g 27 fs), (it, aI g m fi), (td, ob 5 [.ref r, .int (iI w), .int (iI (x - 1)), .int (iI x2_137), .int (iI a1), .int (iI kk2)])] rfl rfl ?_
                refine v_lv [4, 5, 1, 0] [(0, .ref h0), (1, .int (iI x)), (2, .int (iI (k + 1))), (3, .int (iI (i + 1)))] rfl ?_
                exact ihL12 (i + 1) (k + 1) x2_137 a1 kk2 (P ++ codeB (z_124)) b2_127 n2_128 f2_129 c2_130 (cl + kc_125) (sl + ks_126) (by assumption) (by omega) (by omega) (by omega) (by assumption) (by assumption) (by omega) (by omega) (by assumption) (by exact hPn) (by assumption) (by exact hTw) (by omega)
          ·
            refine v_aload_n fx 2 dX6_writeModes_69 rfl rfl ?_
            refine v_get fx 0 2 inX6 k168 dX6_writeModes_70 rfl rfl (by decide) rfl rfl rfl ?_
            refine v_getsN fx 3 (by decide) n702 dX6_writeModes_73 rfl ?_
            refine v_iconst fx dX6_writeModes_76 rfl ?_
            refine v_tald fx 3 (by first | decide | omega) (by first | decide | omega) dX6_writeModes_77 rfl ?_
            refine v_any (fun z_142 hz_142 ez_142 => ?_)
            have htm := tabm_at (x := 0) (by omega) ez_142 hz_142
            have hmo := mode_0 ez_142 hz_142
            refine v_callVE (As := [.int (iI z_142)]) (rest := []) fx [1, 2] [0, 3, 4, 5, 6] [(o, ob 0 [.ref b1, .int (iI c1), .int (iI pl), .int (iI tu)]), (b1, aB g n1 f1)] [(h0, ob 6 [.ref r, .int (iI w), .ref o, .ref td]), (td, ob 5 [.ref r, .int (iI w), .int (iI (x - 1)), .int (iI nx), .int (iI a0), .int (iI bk)]), (r, ob 2 [.ref rs, .ref it, .int (iI c)]), (rs, aI g 27 fs), (it, aI g m fi)] 1 0 (c_X0_addCode_e l g o b1 n1 f1 c1 pl tu z_142 (T ++ P) (by first | omega | decide | assumption) (by first | assumption | exact hi12_0) (by first | omega | decide | assumption) (by first | omega | decide | assumption) (by exact hi12_8) (by assumption)) dX6_writeModes_78 k703 k704 k705 k50 k706 ykX0_addCode rfl rfl rfl rfl rfl rfl rfl rfl (nl rfl) ⟨nl rfl, nl rfl⟩ ⟨(by show cl + 1 ≤ 8200; omega), (by show sl + 260000 ≤ 800000; omega)⟩ rfl (fun v9 w9 kc_143 ks_144 hu => ?_)
            obtain ⟨b2_145, n2_146, f2_147, c2_148, rfl, rfl, u_149, u_150, u_151, u_152, u_153, u_154⟩ := hu
            refine v_is (wn := [(h0, ob 6 [.ref r, .int (iI w), .ref o, .ref td]), (td, ob 5 [.ref r, .int (iI w), .int (iI (x - 1)), .int (iI nx), .int (iI a0), .int (iI bk)]), (r, ob 2 [.ref rs, .ref it, .int (iI c)]), (rs, aI g 27 fs), (it, aI g m fi), (o, ob 0 [.ref b2_145, .int (iI c2_148), .int (iI pl), .int (iI tu)]), (b2_145, aB g n2_146 f2_147)]) (cn := cl + kc_143) (sn := sl + ks_144) (sn2 := []) rfl rfl rfl rfl ?_
            have hEn := EncC_as u_154
            refine v_aload_n fx 2 dX6_writeModes_81 rfl rfl ?_
            refine v_get fx 0 3 inX6 k169 dX6_writeModes_82 rfl rfl (by decide) rfl rfl rfl ?_
            refine v_aload_n fx 2 dX6_writeModes_85 rfl rfl ?_
            refine v_get fx 0 3 inX6 k169 dX6_writeModes_86 rfl rfl (by decide) rfl rfl rfl ?_
            refine v_callV (As := []) (rest := [.ref td]) fx [1, 2, 3, 4] [0, 5, 6] [(td, ob 5 [.ref r, .int (iI w), .int (iI (x - 1)), .int (iI nx), .int (iI a0), .int (iI bk)]), (r, ob 2 [.ref rs, .ref it, .int (iI c)]), (rs, aI g 27 fs), (it, aI g m fi)] [(h0, ob 6 [.ref r, .int (iI w), .ref o, .ref td]), (o, ob 0 [.ref b2_145, .int (iI c2_148), .int (iI pl), .int (iI tu)]), (b2_145, aB g n2_146 f2_147)] 0 0 (c_X5_b2 l g td r w (x - 1) nx a0 bk rs it m c F fs fi (by exact hp2) (by exact hp3) (by omega) (by omega) (by exact hi12_4) (by first | omega | decide | assumption) (by first | omega | decide | assumption) (by first | omega | decide | assumption)) dX6_writeModes_89 k698 k699 k700 k52 k701 ykX5_b2 rfl rfl rfl rfl rfl rfl rfl rfl (nl rfl) ⟨nl rfl, nl rfl⟩ ⟨(by show (cl + kc_143) + 0 ≤ 8200; omega), (by show (sl + ks_144) + 0 ≤ 800000; omega)⟩ rfl (fun v9 w9 hu => ?_)
            obtain ⟨q3, rfl, rfl, u_155, u_156, u_157⟩ := hu
            refine v_is (wn := [(h0, ob 6 [.ref r, .int (iI w), .ref o, .ref td]), (o, ob 0 [.ref b2_145, .int (iI c2_148), .int (iI pl), .int (iI tu)]), (b2_145, aB g n2_146 f2_147), (td, ob 5 [.ref r, .int (iI w), .int (iI (x - 1)), .int (iI nx), .int (iI a0), .int (iI bk)]), (r, ob 2 [.ref rs, .ref it, .int (iI c)]), (rs, aI g 27 fs), (it, aI g m fi)]) (cn := cl + kc_143) (sn := sl + ks_144) (sn2 := [.int (iI q3), .ref td]) rfl rfl rfl rfl ?_
            have hq3 : q3 = q2 := by rw [u_155, hq2]
            have hbt := bgt_to (a0 := a0) (b := q3) (w := w) (by omega) (by omega) (by omega)
            have hTx : TI F fi x k q3 := TI_less hp3 hp4 hi12_5 (by omega) (by omega)
            have hPn := PreT_pass hi12_9 (by omega) hmA hmB hea u_155 (by omega) hmo
            have hTw : TLw w F fi x k q3 := fun _ => TL_mono hTl (by omega)
            refine v_callV (As := [.int (iI q3)]) (rest := []) fx [3, 4, 5, 6] [0, 1, 2] [(td, ob 5 [.ref r, .int (iI w), .int (iI (x - 1)), .int (iI nx), .int (iI a0), .int (iI bk)]), (r, ob 2 [.ref rs, .ref it, .int (iI c)]), (rs, aI g 27 fs), (it, aI g m fi)] [(h0, ob 6 [.ref r, .int (iI w), .ref o, .ref td]), (o, ob 0 [.ref b2_145, .int (iI c2_148), .int (iI pl), .int (iI tu)]), (b2_145, aB g n2_146 f2_147)] 1 0 (c_X5_moveTo_e l g td r w (x - 1) nx a0 bk rs it m c F fs fi q3 (by exact hp2) (by exact hp3) (by first | omega | decide | assumption) (by first | omega | decide | assumption) (by first | omega | decide | assumption) (by first | omega | decide | assumption) (by first | omega | decide | assumption) (by first | omega | decide | assumption)) dX6_writeModes_92 k714 k715 k716 k52 k717 ykX5_moveTo rfl rfl rfl rfl rfl rfl rfl rfl (nl rfl) ⟨nl rfl, nl rfl⟩ ⟨(by show (cl + kc_143) + 0 ≤ 8200; omega), (by show (sl + ks_144) + 0 ≤ 800000; omega)⟩ rfl (fun v9 w9 hu => ?_)
            obtain ⟨x2_158, rfl, rfl, u_159, u_160, u_161⟩ := hu
            refine v_is (wn := [(h0, ob 6 [.ref r, .int (iI w), .ref o, .ref td]), (o, ob 0 [.ref b2_145, .int (iI c2_148), .int (iI pl), .int (iI tu)]), (b2_145, aB g n2_146 f2_147), (td, ob 5 [.ref r, .int (iI w), .int (iI (x - 1)), .int (iI x2_158), .int (iI q3), .int (iI bk)]), (r, ob 2 [.ref rs, .ref it, .int (iI c)]), (rs, aI g 27 fs), (it, aI g m fi)]) (cn := cl + kc_143) (sn := sl + ks_144) (sn2 := []) rfl rfl rfl rfl ?_
            refine v_goto fx 227 dX6_writeModes_95 (by decide) ?_
            refine v_iinc fx 5 (i + 1) [(3, .int (iI (i + 1))), (5, .int (iI (a1 - q1))), (4, .int (iI a1)), (0, .ref h0), (1, .int (iI x)), (2, .int (iI k))] dX6_writeModes_227 rfl (by omega) (by decide) rfl rfl ?_
            refine v_goto fx 12 dX6_writeModes_230 (by decide) ?_
            refine v_ws [0, 1, 2, 4, 5, 6, 3] [(h0, ob 6 [.ref r, .int (iI w), .ref o, .ref td]), (o, ob 0 [.ref b2_145, .int (iI c2_148), .int (iI pl), .int (iI tu)]), (b2_145, aB g n2_146 f2_147), (r, ob 2 [.ref rs, .ref it, .int (iI c)]), (rs, aI g 27 fs), (it, aI g m fi), (td, ob 5 [.ref r, .int (iI w), .int (iI (x - 1)), .int (iI x2_158), .int (iI q3), .int (iI bk)])] rfl rfl ?_
            refine v_lv [3, 4, 5, 0] [(0, .ref h0), (1, .int (iI x)), (2, .int (iI k)), (3, .int (iI (i + 1)))] rfl ?_
            exact ihL12 (i + 1) k x2_158 q3 bk (P ++ codeB (z_142)) b2_145 n2_146 f2_147 c2_148 (cl + kc_143) (sl + ks_144) (by assumption) (by omega) (by omega) (by omega) (by assumption) (by assumption) (by omega) (by omega) (by assumption) (by exact hPn) (by assumption) (by exact hTw) (by omega)
  refine v_lv [2, 3, 1, 0] [(0, .ref h0), (1, .int (iI x)), (2, .int (iI 0)), (3, .int (iI 0))] rfl ?_
  exact L12 _ 0 0 0 (-1) 0 ([]) ba n f cb 0 0 (by exact hp1) (by omega) (by omega) (by omega) (by exact TI_0 hp3 (by omega)) (by exact TI_0 hp3 (by omega)) (by omega) (by rw [bgt_0]; omega) (by rw [List.append_nil]; exact hp7) (by exact PreT_0) (by exact TL_0 hp2 (by omega)) (by exact fun _ => TL_0 hp2 (by omega)) (Nat.lt_succ_self _)
