/-! THE CLASS: what its bits hold -/
theorem fillz_1 {f1 f2 : Nat → Int32} {i x : Int} (e : upd f1 i.toNat (vp_nar .byte (iI 0)) = f2) (h : ∀ j : Nat, x ≤ (j : Int) → (j : Int) < i → f1 j = 0) (hi : 0 ≤ i) : ∀ j : Nat, x ≤ (j : Int) → (j : Int) < i + 1 → f2 j = 0 := by
  intro j h1 h2
  rw [← e]
  by_cases q : j = i.toNat
  · subst q; rw [pk_us]; decide
  · rw [pk_un q]; exact h j h1 (by omega)
theorem fillz_2 {f f1 f2 : Nat → Int32} {i : Int} {v : Int32} (e : upd f1 i.toNat v = f2) (h : ∀ j : Nat, i ≤ (j : Int) → f1 j = f j) (hi : 0 ≤ i) : ∀ j : Nat, i + 1 ≤ (j : Int) → f2 j = f j := by
  intro j h1
  rw [← e, pk_un (by omega)]; exact h j (by omega)
theorem rem_z {n : Nat} {f f2 : Nat → Int32} {c : Int} (h : zB n f c) (h1 : ∀ j : Nat, 0 ≤ (j : Int) → (j : Int) < (c + 7) / 8 → f2 j = 0) (h2 : ∀ j : Nat, (c + 7) / 8 ≤ (j : Int) → f2 j = f j) : ∀ j : Nat, j < n → f2 j = 0 := by
  intro j hj
  by_cases q : (j : Int) < (c + 7) / 8
  · exact h1 j (by omega) q
  · rw [h2 j (by omega)]; exact h j hj (by omega)
theorem EncC_zerosI {n : Nat} {f : Nat → Int32} {tu c x : Int} {T : List Bool} (h : EncC n f tu c T) (hx : 0 ≤ x) : EncC n f tu (c + x) (T ++ List.replicate x.toNat false) := by
  have := EncC_zeros h x.toNat
  rwa [show ((x.toNat : Nat) : Int) = x by omega] at this
theorem EncC_eq {n : Nat} {f : Nat → Int32} {tu c : Int} {T T2 : List Bool} (h : EncC n f tu c T) (e : T = T2) : EncC n f tu c T2 := e ▸ h
theorem cb_step {T T1 : List Bool} {i n : Nat} {x : Int} (h : T1 ++ cbits (i + 1) n = T ++ codeB x) : (T1 ++ [n.testBit i]) ++ cbits i n = T ++ codeB x := by
  rw [← h, List.append_assoc]; rfl
/-- how far a run is written -/
def RunI (x y bk : Int) (T T1 : List Bool) : Prop := (y = x ∧ T1 = T) ∨ (y = x - 2560 ∧ 2560 ≤ x ∧ T1 = T ++ codeB (rcode 103 bk))
theorem RunI_0 {x bk : Int} {T : List Bool} : RunI x x bk T T := Or.inl ⟨rfl, rfl⟩
theorem RunI_b {x y bk q : Int} {T T1 : List Bool} (h : RunI x y bk T T1) (hy : 2560 ≤ y) (hx : x ≤ 3000) (hq : q = rcode 103 bk) : RunI x (y - 2560) bk T (T1 ++ codeB q) := by
  rcases h with ⟨h1, h2⟩ | ⟨h1, h2, h3⟩
  · right; exact ⟨by omega, by omega, by rw [h2, hq]⟩
  · omega
theorem RunI_e1 {x y bk q1 q2 : Int} {T T1 : List Bool} (h : RunI x y bk T T1) (hy : 64 ≤ y ∧ y < 2560) (h1 : q1 = rcode (y / 64 + 63) bk) (h2 : q2 = rcode (y % 64) bk) : (T1 ++ codeB q1) ++ codeB q2 = T ++ runS x bk := by
  rcases h with ⟨g1, g2⟩ | ⟨g1, g3, g2⟩
  · unfold runS runT; rw [if_neg (by omega), if_pos (by omega), g2, h1, h2, g1, List.append_assoc]
  · unfold runS runT; rw [if_pos g3, if_pos (by omega), g2, h1, h2, g1, List.append_assoc, List.append_assoc]
theorem RunI_e2 {x y bk q2 : Int} {T T1 : List Bool} (h : RunI x y bk T T1) (hy : y < 64) (h2 : q2 = rcode (y % 64) bk) : T1 ++ codeB q2 = T ++ runS x bk := by
  rcases h with ⟨g1, g2⟩ | ⟨g1, g3, g2⟩
  · unfold runS runT; rw [if_neg (by omega), if_neg (by omega), g2, h2, g1]; rfl
  · unfold runS runT; rw [if_pos g3, if_neg (by omega), g2, h2, g1, List.append_assoc]; rfl
abbrev po_c_J7_fill_z (g : GG) (h1 : Nat) (n : Nat) (f : Nat → Int32) (x : Int) (y : Int) : Option Value → va_W → Prop := fun v8 w8 => ∃ f2 : Nat → Int32, v8 = none ∧ w8 = [(h1, aB g n f2)] ∧ (bF f2) ∧ (∀ j : Nat, x ≤ (j : Int) → (j : Int) < y → f2 j = 0) ∧ (∀ j : Nat, y ≤ (j : Int) → f2 j = f j)
set_option maxHeartbeats 4000000 in
set_option maxRecDepth 100000 in
/-- Arrays.fill of bytes, with 0 -/
theorem c_J7_fill_z (l : Launch) (g : GG) (h1 : Nat) (n : Nat) (f : Nat → Int32) (x : Int) (y : Int) (hp0 : 0 ≤ x ∧ x ≤ y ∧ y ≤ (n : Int)) (hp1 : n < 100000000) (hp2 : bF f) : Ct l g yJ7_fill_eb02e (wM yJ7_fill_eb02e cJ7_fill_eb02e 5 none) (rmD 1 0 0) [.ref h1, .int (iI x), .int (iI y), .int (iI 0)] [(h1, aB g n f)] (po_c_J7_fill_z g h1 n f x y) := by
  refine Ct_of (by decide +kernel) (Nat.le_of_ble_eq_true rfl) ?_
  intro p9 e9 s9 m9 ag9 bl9 mt9 c9 A9 fx hr hnm
  refine v_aload_n fx 0 dJ7_fill_eb02e_0 rfl rfl ?_
  refine v_alen fx 0 1 (n : Int) dJ7_fill_eb02e_1 rfl rfl rfl rfl ?_
  refine v_iload_n fx 1 dJ7_fill_eb02e_2 rfl rfl ?_
  refine v_iload_n fx 2 dJ7_fill_eb02e_3 rfl rfl ?_
  refine v_callS (As := [.int (iI (n : Int)), .int (iI x), .int (iI y)]) (rest := []) fx [] [0] [] [(h1, aB g n f)] 3 (c_J7_rangeCheck_23922 l g (n : Int) x y (by first | omega | decide | assumption)) dJ7_fill_eb02e_4 k369 k370 k55 k371 ykJ7_rangeCheck_23922 rfl rfl rfl rfl rfl (nl rfl) ⟨nl rfl, nl rfl⟩ ⟨(nl rfl), (nl rfl)⟩ rfl (fun v9 w9 hu => ?_)
  obtain ⟨rfl, rfl⟩ := hu
  refine v_is (wn := [(h1, aB g n f)]) (cn := 0) (sn := 0) (sn2 := []) rfl rfl rfl rfl ?_
  refine v_iload_n fx 1 dJ7_fill_eb02e_7 rfl rfl ?_
  refine v_istore fx [(4, .int (iI x)), (0, .ref h1), (1, .int (iI x)), (2, .int (iI y)), (3, .int (iI 0))] dJ7_fill_eb02e_8 (by decide) rfl rfl ?_
  have L10 : ∀ (N : Nat) (i : Int) (f1 : Nat → Int32), (x ≤ i ∧ i ≤ y) → (bF f1) → (∀ j : Nat, x ≤ (j : Int) → (j : Int) < i → f1 j = 0) → (∀ j : Nat, i ≤ (j : Int) → f1 j = f j) → ((y - i).toNat) < N → V p9 l e9 (rmD 1 0 0) s9 m9 ag9 bl9 mt9 c9 5 g A9 (MQ bl9 (cQ g (po_c_J7_fill_z g h1 n f x y) A9) ag9 s9 0 0 A9) [(h1, aB g n f1)] 0 0 [(0, .ref h1), (1, .int (iI x)), (2, .int (iI y)), (3, .int (iI 0)), (4, .int (iI i))] 10 [] := by
    intro N
    induction N with
    | zero => intro i f1 hi10_0 hi10_1 hi10_2 hi10_3 hN; exact absurd hN (Nat.not_lt_zero _)
    | succ N ihL10 =>
      intro i f1 hi10_0 hi10_1 hi10_2 hi10_3 hN10
      refine v_iload fx 4 dJ7_fill_eb02e_10 rfl rfl ?_
      refine v_iload_n fx 2 dJ7_fill_eb02e_12 rfl rfl ?_
      refine v_icmp_ge fx 27 dJ7_fill_eb02e_13 (by decide) rfl (by omega) (by omega) (fun h_1 => ?_) (fun h_1 => ?_)
      ·
        exact v_vret fx [(h1, aB g n f1)] [0] hr dJ7_fill_eb02e_27 rfl rfl (nl rfl) (nl rfl) ⟨f1, rfl, rfl, (by exact hi10_1), (by exact fun j h1 h2 => hi10_2 j h1 (by omega)), (by exact fun j h => hi10_3 j (by omega))⟩
      ·
        refine v_aload_n fx 0 dJ7_fill_eb02e_16 rfl rfl ?_
        refine v_iload fx 4 dJ7_fill_eb02e_17 rfl rfl ?_
        refine v_iload_n fx 3 dJ7_fill_eb02e_19 rfl rfl ?_
        obtain ⟨f_2, ef_2⟩ : ∃ f9 : Nat → Int32, upd f1 (i).toNat (vp_nar .byte (iI 0)) = f9 := ⟨_, rfl⟩
        refine v_bast fx 0 f_2 [(h1, aB g n f_2)] dJ7_fill_eb02e_20 rfl (by omega) (by omega) ef_2 rfl rfl ?_
        refine v_iinc fx 4 (i + 1) [(4, .int (iI (i + 1))), (0, .ref h1), (1, .int (iI x)), (2, .int (iI y)), (3, .int (iI 0))] dJ7_fill_eb02e_21 rfl (by omega) (by decide) rfl rfl ?_
        refine v_goto fx 10 dJ7_fill_eb02e_24 (by decide) ?_
        refine v_lv [1, 2, 3, 4, 0] [(0, .ref h1), (1, .int (iI x)), (2, .int (iI y)), (3, .int (iI 0)), (4, .int (iI (i + 1)))] rfl ?_
        exact ihL10 (i + 1) f_2 (by omega) (by exact bF_updE (by assumption) hi10_1) (by exact fillz_1 (by assumption) hi10_2 (by omega)) (by exact fillz_2 (by assumption) hi10_3 (by omega)) (by omega)
  refine v_lv [1, 2, 3, 4, 0] [(0, .ref h1), (1, .int (iI x)), (2, .int (iI y)), (3, .int (iI 0)), (4, .int (iI x))] rfl ?_
  exact L10 _ x f (by omega) (by exact hp2) (by exact fun j h1 h2 => by omega) (by exact fun j h => rfl) (Nat.lt_succ_self _)
abbrev po_c_X0_removeAll_z (g : GG) (h0 : Nat) (ba : Nat) (n : Nat) (f : Nat → Int32) (c : Int) (pl : Int) (tu : Int) : Option Value → va_W → Prop := fun v8 w8 => ∃ f2 : Nat → Int32, v8 = none ∧ w8 = [(h0, ob 0 [.ref ba, .int (iI 0), .int (iI 0), .int (iI tu)]), (ba, aB g n f2)] ∧ (bF f2) ∧ (∀ j : Nat, j < n → f2 j = 0)
set_option maxHeartbeats 4000000 in
set_option maxRecDepth 100000 in
theorem c_X0_removeAll_z (l : Launch) (g : GG) (h0 : Nat) (ba : Nat) (n : Nat) (f : Nat → Int32) (c : Int) (pl : Int) (tu : Int) (hp0 : 0 ≤ c ∧ c ≤ 8 * (n : Int) ∧ 64 ≤ n ∧ n ≤ 130000) (hp1 : bF f) (hp2 : zB n f c) : Ct l g yX0_removeAll (wM yX0_removeAll cX0_removeAll 1 none) (rmD 2 0 0) [.ref h0] [(h0, ob 0 [.ref ba, .int (iI c), .int (iI pl), .int (iI tu)]), (ba, aB g n f)] (po_c_X0_removeAll_z g h0 ba n f c pl tu) := by
  refine Ct_of (by decide +kernel) (Nat.le_of_ble_eq_true rfl) ?_
  intro p9 e9 s9 m9 ag9 bl9 mt9 c9 A9 fx hr hnm
  refine v_aload_n fx 0 dX0_removeAll_0 rfl rfl ?_
  refine v_get fx 0 0 inX0 k121 dX0_removeAll_1 rfl rfl (by decide) rfl rfl rfl ?_
  refine v_iconst fx dX0_removeAll_4 rfl ?_
  refine v_aload_n fx 0 dX0_removeAll_5 rfl rfl ?_
  refine v_callV (As := []) (rest := [.int (iI 0), .ref ba]) fx [0] [1] [(h0, ob 0 [.ref ba, .int (iI c), .int (iI pl), .int (iI tu)])] [(ba, aB g n f)] 0 0 (c_X0_byteCount l g h0 ba c pl tu (by first | omega | decide | assumption)) dX0_removeAll_6 k362 k363 k364 k50 k365 ykX0_byteCount rfl rfl rfl rfl rfl rfl rfl rfl (nl rfl) ⟨nl rfl, nl rfl⟩ ⟨(nl rfl), (nl rfl)⟩ rfl (fun v9 w9 hu => ?_)
  obtain ⟨rfl, rfl⟩ := hu
  refine v_is (wn := [(ba, aB g n f), (h0, ob 0 [.ref ba, .int (iI c), .int (iI pl), .int (iI tu)])]) (cn := 0) (sn := 0) (sn2 := [.int (iI ((c + 7) / 8)), .int (iI 0), .ref ba]) rfl rfl rfl rfl ?_
  refine v_iconst fx dX0_removeAll_9 rfl ?_
  refine v_callS (As := [.ref ba, .int (iI 0), .int (iI ((c + 7) / 8)), .int (iI 0)]) (rest := []) fx [0] [1] [(ba, aB g n f)] [(h0, ob 0 [.ref ba, .int (iI c), .int (iI pl), .int (iI tu)])] 4 (c_J7_fill_z l g ba n f 0 ((c + 7) / 8) (by first | omega | decide | assumption) (by first | omega | decide | assumption) (by exact hp1)) dX0_removeAll_10 k366 k367 k55 k368 ykJ7_fill_eb02e rfl rfl rfl rfl rfl (nl rfl) ⟨nl rfl, nl rfl⟩ ⟨(nl rfl), (nl rfl)⟩ rfl (fun v9 w9 hu => ?_)
  obtain ⟨f2_1, rfl, rfl, u_2, u_3, u_4⟩ := hu
  refine v_is (wn := [(h0, ob 0 [.ref ba, .int (iI c), .int (iI pl), .int (iI tu)]), (ba, aB g n f2_1)]) (cn := 0) (sn := 0) (sn2 := []) rfl rfl rfl rfl ?_
  have hz1 := u_3
  have hz2 := u_4
  refine v_aload_n fx 0 dX0_removeAll_13 rfl rfl ?_
  refine v_iconst fx dX0_removeAll_14 rfl ?_
  refine v_put fx 0 1 [(h0, ob 0 [.ref ba, .int (iI 0), .int (iI pl), .int (iI tu)]), (ba, aB g n f2_1)] inX0 tyX0_ok nmX0 k122 dX0_removeAll_15 rfl rfl (by decide) rfl rfl rfl rfl (nl rfl) rfl rfl ?_
  refine v_aload_n fx 0 dX0_removeAll_18 rfl rfl ?_
  refine v_iconst fx dX0_removeAll_19 rfl ?_
  refine v_put fx 0 2 [(h0, ob 0 [.ref ba, .int (iI 0), .int (iI 0), .int (iI tu)]), (ba, aB g n f2_1)] inX0 tyX0_ok nmX0 k123 dX0_removeAll_20 rfl rfl (by decide) rfl rfl rfl rfl (nl rfl) rfl rfl ?_
  exact v_vret fx [(h0, ob 0 [.ref ba, .int (iI 0), .int (iI 0), .int (iI tu)]), (ba, aB g n f2_1)] [0, 1] hr dX0_removeAll_23 rfl rfl (nl rfl) (nl rfl) ⟨f2_1, rfl, rfl, (by assumption), (by exact rem_z hp2 hz1 hz2)⟩
abbrev po_c_X0_makeRoomFor_e (g : GG) (h0 : Nat) (ba : Nat) (n : Nat) (f : Nat → Int32) (c : Int) (pl : Int) (tu : Int) (x : Int) (T : List Bool) : Option Value → va_W → Nat → Nat → Prop := fun v8 w8 kc8 ks8 => ∃ b2 : Nat, ∃ n2 : Nat, ∃ f2 : Nat → Int32, v8 = none ∧ w8 = [(h0, ob 0 [.ref b2, .int (iI c), .int (iI pl), .int (iI tu)]), (b2, aB g n2 f2)] ∧ (ks8 + 2 * n ≤ 2 * n2 ∧ 64 * kc8 ≤ ks8 ∧ n ≤ n2 ∧ n2 ≤ 130000 ∧ kc8 ≤ 1) ∧ ((c + x + 7) / 8 ≤ (n2 : Int)) ∧ (bF f2) ∧ (EncC n2 f2 tu c T)
set_option maxHeartbeats 4000000 in
set_option maxRecDepth 100000 in
theorem c_X0_makeRoomFor_e (l : Launch) (g : GG) (h0 : Nat) (ba : Nat) (n : Nat) (f : Nat → Int32) (c : Int) (pl : Int) (tu : Int) (x : Int) (T : List Bool) (hp0 : 0 ≤ c ∧ c ≤ 8 * (n : Int) ∧ 64 ≤ n ∧ n ≤ 130000) (hp1 : bF f) (hp2 : 0 ≤ x ∧ x ≤ 4000) (hp3 : (c + x + 7) / 8 ≤ 65000) (hp4 : EncC n f tu c T) : CtE l g yX0_makeRoomFor (wM yX0_makeRoomFor cX0_makeRoomFor 3 none) (rmD 2 1 130000) [.ref h0, .int (iI x)] [(h0, ob 0 [.ref ba, .int (iI c), .int (iI pl), .int (iI tu)]), (ba, aB g n f)] (po_c_X0_makeRoomFor_e g h0 ba n f c pl tu x T) := by
  refine CtE_of (by decide +kernel) (Nat.le_of_ble_eq_true rfl) ?_
  intro p9 e9 s9 m9 ag9 bl9 mt9 c9 A9 fx hr hnm
  refine v_aload_n fx 0 dX0_makeRoomFor_0 rfl rfl ?_
  refine v_get fx 0 1 inX0 k122 dX0_makeRoomFor_1 rfl rfl (by decide) rfl rfl rfl ?_
  refine v_iload_n fx 1 dX0_makeRoomFor_4 rfl rfl ?_
  refine v_iadd fx (c + x) dX0_makeRoomFor_5 (by rfl) rfl ?_
  refine v_bipush fx dX0_makeRoomFor_6 (by decide +kernel) rfl ?_
  refine v_iadd fx ((c + x) + 7) dX0_makeRoomFor_8 (by rfl) rfl ?_
  refine v_iconst fx dX0_makeRoomFor_9 rfl ?_
  refine v_ishr fx (iI (((c + x) + 7) / 8)) dX0_makeRoomFor_10 (iI_shr (k := 3) (by omega) _ (by decide)) rfl ?_
  refine v_istore_n fx [(2, .int (iI (((c + x) + 7) / 8))), (0, .ref h0), (1, .int (iI x))] dX0_makeRoomFor_11 (by decide) rfl rfl ?_
  refine v_iload_n fx 0 dX0_makeRoomFor_12 rfl rfl ?_
  refine v_aload_n fx 1 dX0_makeRoomFor_13 rfl rfl ?_
  refine v_get fx 0 0 inX0 k121 dX0_makeRoomFor_14 rfl rfl (by decide) rfl rfl rfl ?_
  refine v_alen fx 1 1 (n : Int) dX0_makeRoomFor_17 rfl rfl rfl rfl ?_
  refine v_icmp_le fx 43 dX0_makeRoomFor_18 (by decide) rfl (by omega) (by omega) (fun h_1 => ?_) (fun h_1 => ?_)
  ·
    exact v_vretE fx [(h0, ob 0 [.ref ba, .int (iI c), .int (iI pl), .int (iI tu)]), (ba, aB g n f)] [0, 1] hr dX0_makeRoomFor_43 rfl rfl ⟨ba, n, f, rfl, rfl, (by first | omega | rfl | assumption), (by first | omega | rfl | assumption), (by first | exact hp1 | exact hbF), (by first | exact hp4 | exact EncC_grow hp4 (by omega) hg0 hg1)⟩
  ·
    refine v_aload_n fx 1 dX0_makeRoomFor_21 rfl rfl ?_
    refine v_aload_n fx 1 dX0_makeRoomFor_22 rfl rfl ?_
    refine v_get fx 0 0 inX0 k121 dX0_makeRoomFor_23 rfl rfl (by decide) rfl rfl rfl ?_
    refine v_iload_n fx 0 dX0_makeRoomFor_26 rfl rfl ?_
    refine v_iconst fx dX0_makeRoomFor_27 rfl ?_
    refine v_aload_n fx 1 dX0_makeRoomFor_28 rfl rfl ?_
    refine v_get fx 0 0 inX0 k121 dX0_makeRoomFor_29 rfl rfl (by decide) rfl rfl rfl ?_
    refine v_alen fx 1 1 (n : Int) dX0_makeRoomFor_32 rfl rfl rfl rfl ?_
    refine v_imul fx (2 * (n : Int)) dX0_makeRoomFor_33 (by rfl) rfl ?_
    obtain ⟨z_2, ez_2⟩ : ∃ z9 : Int, (if ((c + x) + 7) / 8 < 2 * (n : Int) then 2 * (n : Int) else ((c + x) + 7) / 8) = z9 := ⟨_, rfl⟩
    have hz_2 : (((c + x) + 7) / 8 < 2 * (n : Int) ∧ z_2 = 2 * (n : Int)) ∨ (¬ ((c + x) + 7) / 8 < 2 * (n : Int) ∧ z_2 = ((c + x) + 7) / 8) := by split at ez_2 <;> omega
    refine v_mmax fx (z_2) (by omega) (by omega) (ez_2) k711 k83 k47 k84 dX0_makeRoomFor_34 (nl rfl) (nl rfl) (nl rfl) (nl rfl) (nl rfl) rfl ?_
    refine v_callS (As := [.ref ba, .int (iI z_2)]) (rest := [.ref h0]) fx [1] [0] [(ba, aB g n f)] [(h0, ob 0 [.ref ba, .int (iI c), .int (iI pl), .int (iI tu)])] 2 (c_J7_copyOf_9075b l g ba n f z_2 (by first | omega | decide | assumption) (by exact hp1)) dX0_makeRoomFor_37 k712 k477 k55 k478 ykJ7_copyOf_9075b rfl rfl rfl rfl rfl (nl rfl) ⟨nl rfl, nl rfl⟩ ⟨(nl rfl), (by show 0 + z_2.toNat ≤ 130000; omega)⟩ rfl (fun v9 w9 hu => ?_)
    obtain ⟨h2_3, fc, rfl, rfl, u_4, u_5⟩ := hu
    refine v_is (wn := [(h0, ob 0 [.ref ba, .int (iI c), .int (iI pl), .int (iI tu)]), (ba, aB g n f), (h2_3, aB g z_2.toNat fc)]) (cn := 1) (sn := z_2.toNat) (sn2 := [.ref h2_3, .ref h0]) rfl rfl (Nat.zero_add _) rfl ?_
    have hbF := bF_cpy hp1 u_4 u_5
    have hg0 := u_4
    have hg1 := u_5
    refine v_put fx 0 0 [(h0, ob 0 [.ref h2_3, .int (iI c), .int (iI pl), .int (iI tu)]), (ba, aB g n f), (h2_3, aB g z_2.toNat fc)] inX0 tyX0_ok nmX0 k121 dX0_makeRoomFor_40 rfl rfl (by decide) rfl rfl rfl rfl (nl rfl) rfl rfl ?_
    exact v_vretE fx [(h0, ob 0 [.ref h2_3, .int (iI c), .int (iI pl), .int (iI tu)]), (h2_3, aB g z_2.toNat fc)] [0, 2] hr dX0_makeRoomFor_43 rfl rfl ⟨h2_3, z_2.toNat, fc, rfl, rfl, (by first | omega | rfl | assumption), (by first | omega | rfl | assumption), (by first | exact hp1 | exact hbF), (by first | exact hp4 | exact EncC_grow hp4 (by omega) hg0 hg1)⟩
abbrev po_c_X0_addZeros_e (g : GG) (h0 : Nat) (ba : Nat) (n : Nat) (f : Nat → Int32) (c : Int) (pl : Int) (tu : Int) (x : Int) (T : List Bool) : Option Value → va_W → Nat → Nat → Prop := fun v8 w8 kc8 ks8 => ∃ b2 : Nat, ∃ n2 : Nat, ∃ f2 : Nat → Int32, v8 = none ∧ w8 = [(h0, ob 0 [.ref b2, .int (iI (c + x)), .int (iI pl), .int (iI tu)]), (b2, aB g n2 f2)] ∧ (ks8 + 2 * n ≤ 2 * n2 ∧ 64 * kc8 ≤ ks8 ∧ n ≤ n2 ∧ n2 ≤ 130000 ∧ kc8 ≤ 1) ∧ ((c + x + 7) / 8 ≤ (n2 : Int)) ∧ (bF f2) ∧ (EncC n2 f2 tu (c + x) (T ++ List.replicate x.toNat false))
set_option maxHeartbeats 4000000 in
set_option maxRecDepth 100000 in
theorem c_X0_addZeros_e (l : Launch) (g : GG) (h0 : Nat) (ba : Nat) (n : Nat) (f : Nat → Int32) (c : Int) (pl : Int) (tu : Int) (x : Int) (T : List Bool) (hp0 : 0 ≤ c ∧ c ≤ 8 * (n : Int) ∧ 64 ≤ n ∧ n ≤ 130000) (hp1 : bF f) (hp2 : 0 ≤ x ∧ x ≤ 4000) (hp3 : (c + x + 7) / 8 ≤ 65000) (hp4 : EncC n f tu c T) : CtE l g yX0_addZeros (wM yX0_addZeros cX0_addZeros 2 none) (rmD 3 1 260000) [.ref h0, .int (iI x)] [(h0, ob 0 [.ref ba, .int (iI c), .int (iI pl), .int (iI tu)]), (ba, aB g n f)] (po_c_X0_addZeros_e g h0 ba n f c pl tu x T) := by
  refine CtE_of (by decide +kernel) (Nat.le_of_ble_eq_true rfl) ?_
  intro p9 e9 s9 m9 ag9 bl9 mt9 c9 A9 fx hr hnm
  refine v_aload_n fx 0 dX0_addZeros_0 rfl rfl ?_
  refine v_iload_n fx 1 dX0_addZeros_1 rfl rfl ?_
  refine v_callVE (As := [.int (iI x)]) (rest := []) fx [0, 1] [] [(h0, ob 0 [.ref ba, .int (iI c), .int (iI pl), .int (iI tu)]), (ba, aB g n f)] [] 1 0 (c_X0_makeRoomFor_e l g h0 ba n f c pl tu x T (by first | omega | decide | assumption) (by exact hp1) (by first | omega | decide | assumption) (by first | omega | decide | assumption) (by first | omega | decide | assumption)) dX0_addZeros_2 k707 k709 k8 k50 k710 ykX0_makeRoomFor rfl rfl rfl rfl rfl rfl rfl rfl (nl rfl) ⟨nl rfl, nl rfl⟩ ⟨(nl rfl), (nl rfl)⟩ rfl (fun v9 w9 kc_1 ks_2 hu => ?_)
  obtain ⟨b2_3, n2_4, f2_5, rfl, rfl, u_6, u_7, u_8, u_9⟩ := hu
  refine v_is (wn := [(h0, ob 0 [.ref b2_3, .int (iI c), .int (iI pl), .int (iI tu)]), (b2_3, aB g n2_4 f2_5)]) (cn := kc_1) (sn := ks_2) (sn2 := []) rfl (Nat.zero_add _) (Nat.zero_add _) rfl ?_
  refine v_aload_n fx 0 dX0_addZeros_5 rfl rfl ?_
  refine v_dup fx dX0_addZeros_6 rfl rfl ?_
  refine v_get fx 0 1 inX0 k122 dX0_addZeros_7 rfl rfl (by decide) rfl rfl rfl ?_
  refine v_iload_n fx 1 dX0_addZeros_10 rfl rfl ?_
  refine v_iadd fx (c + x) dX0_addZeros_11 (by rfl) rfl ?_
  refine v_put fx 0 1 [(h0, ob 0 [.ref b2_3, .int (iI (c + x)), .int (iI pl), .int (iI tu)]), (b2_3, aB g n2_4 f2_5)] inX0 tyX0_ok nmX0 k122 dX0_addZeros_12 rfl rfl (by decide) rfl rfl rfl rfl (nl rfl) rfl rfl ?_
  exact v_vretE fx [(h0, ob 0 [.ref b2_3, .int (iI (c + x)), .int (iI pl), .int (iI tu)]), (b2_3, aB g n2_4 f2_5)] [0, 1] hr dX0_addZeros_15 rfl rfl ⟨b2_3, n2_4, f2_5, rfl, rfl, (by first | omega | rfl | assumption), (by first | omega | rfl | assumption), (by assumption), (by exact EncC_zerosI (by assumption) (by omega))⟩
abbrev po_c_X0_addCode_e (g : GG) (h0 : Nat) (ba : Nat) (n : Nat) (f : Nat → Int32) (c : Int) (pl : Int) (tu : Int) (x : Int) (T : List Bool) : Option Value → va_W → Nat → Nat → Prop := fun v8 w8 kc8 ks8 => ∃ b2 : Nat, ∃ n2 : Nat, ∃ f2 : Nat → Int32, ∃ c2 : Int, v8 = none ∧ w8 = [(h0, ob 0 [.ref b2, .int (iI c2), .int (iI pl), .int (iI tu)]), (b2, aB g n2 f2)] ∧ (ks8 + 2 * n ≤ 2 * n2 ∧ 64 * kc8 ≤ ks8 ∧ n ≤ n2 ∧ n2 ≤ 130000 ∧ kc8 ≤ 1) ∧ (c2 = c + (clen x : Int)) ∧ (c2 ≤ 8 * (n2 : Int)) ∧ (bF f2) ∧ (clen x ≤ 13) ∧ (EncC n2 f2 tu c2 (T ++ codeB x))
set_option maxHeartbeats 4000000 in
set_option maxRecDepth 100000 in
/-- a code comes behind the bits -/
theorem c_X0_addCode_e (l : Launch) (g : GG) (h0 : Nat) (ba : Nat) (n : Nat) (f : Nat → Int32) (c : Int) (pl : Int) (tu : Int) (x : Int) (T : List Bool) (hp0 : 0 ≤ c ∧ c ≤ 8 * (n : Int) ∧ 64 ≤ n ∧ n ≤ 130000) (hp1 : bF f) (hp2 : (c + 20) / 8 ≤ 65000) (hp3 : 1 ≤ x ∧ x < 16384) (hp4 : EncC n f tu c T) (hp5 : TU tu) : CtE l g yX0_addCode (wM yX0_addCode cX0_addCode 3 none) (rmD 3 1 260000) [.ref h0, .int (iI x)] [(h0, ob 0 [.ref ba, .int (iI c), .int (iI pl), .int (iI tu)]), (ba, aB g n f)] (po_c_X0_addCode_e g h0 ba n f c pl tu x T) := by
  refine CtE_of (by decide +kernel) (Nat.le_of_ble_eq_true rfl) ?_
  intro p9 e9 s9 m9 ag9 bl9 mt9 c9 A9 fx hr hnm
  have hcl := clen_b (x := x) (by omega)
  have hj : clen x ≤ 13 := by
    unfold clen
    exact Nat.le_of_lt_succ ((Nat.log2_lt (by omega)).mpr (by omega))
  refine v_aload_n fx 0 dX0_addCode_0 rfl rfl ?_
  refine v_bipush fx dX0_addCode_1 (by decide +kernel) rfl ?_
  refine v_callVE (As := [.int (iI 13)]) (rest := []) fx [0, 1] [] [(h0, ob 0 [.ref ba, .int (iI c), .int (iI pl), .int (iI tu)]), (ba, aB g n f)] [] 1 0 (c_X0_makeRoomFor_e l g h0 ba n f c pl tu 13 T (by first | omega | decide | assumption) (by exact hp1) (by first | omega | decide | assumption) (by first | omega | decide | assumption) (by first | omega | decide | assumption)) dX0_addCode_3 k707 k709 k8 k50 k710 ykX0_makeRoomFor rfl rfl rfl rfl rfl rfl rfl rfl (nl rfl) ⟨nl rfl, nl rfl⟩ ⟨(nl rfl), (nl rfl)⟩ rfl (fun v9 w9 kc_1 ks_2 hu => ?_)
  obtain ⟨bb, nn, ff, rfl, rfl, u_3, u_4, u_5, u_6⟩ := hu
  refine v_is (wn := [(h0, ob 0 [.ref bb, .int (iI c), .int (iI pl), .int (iI tu)]), (bb, aB g nn ff)]) (cn := kc_1) (sn := ks_2) (sn2 := []) rfl (Nat.zero_add _) (Nat.zero_add _) rfl ?_
  have hbF0 := u_5
  have hE0 := u_6
  refine v_iload_n fx 1 dX0_addCode_6 rfl rfl ?_
  refine v_callSN (As := [.int (iI x)]) (rest := []) fx [] [0, 1] [] [(h0, ob 0 [.ref bb, .int (iI c), .int (iI pl), .int (iI tu)]), (bb, aB g nn ff)] 1 (c_X7_topBit l g x (by first | omega | decide | assumption)) dX0_addCode_7 n713 k212 k46 k213 ykX7_topBit rfl rfl rfl rfl rfl (nl rfl) ⟨nl rfl, nl rfl⟩ ⟨(by show kc_1 + 0 ≤ 1; omega), (by show ks_2 + 0 ≤ 260000; omega)⟩ rfl (fun v9 w9 hu => ?_)
  obtain ⟨t_1, rfl, rfl, u_7, u_8, u_9, u_10⟩ := hu
  refine v_is (wn := [(h0, ob 0 [.ref bb, .int (iI c), .int (iI pl), .int (iI tu)]), (bb, aB g nn ff)]) (cn := kc_1) (sn := ks_2) (sn2 := [.int (iI t_1)]) rfl rfl rfl rfl ?_
  have ht := top_eq (t := t_1) hj hcl (by assumption) (by assumption) (by assumption)
  refine v_iconst fx dX0_addCode_10 rfl ?_
  refine v_ishr fx (iI (t_1 / 2)) dX0_addCode_11 (iI_shr (k := 1) (by omega) _ (by decide)) rfl ?_
  refine v_istore_n fx [(2, .int (iI (t_1 / 2))), (0, .ref h0), (1, .int (iI x))] dX0_addCode_12 (by decide) rfl rfl ?_
  have L13 : ∀ (N : Nat) (i : Nat) (b : Int) (c1 : Int) (f1 : Nat → Int32) (T1 : List Bool), (b = hb2 i) → (i ≤ 13) → (c1 + (i : Int) = c + (clen x : Int)) → (c ≤ c1) → (bF f1) → (EncC nn f1 tu c1 T1) → (T1 ++ cbits i x.toNat = T ++ codeB x) → b.toNat < N → V p9 l e9 (rmD 3 1 260000) s9 m9 ag9 bl9 mt9 c9 3 g A9 (MQE bl9 (cQE g (po_c_X0_addCode_e g h0 ba n f c pl tu x T) A9) ag9 s9 A9) [(h0, ob 0 [.ref bb, .int (iI c1), .int (iI pl), .int (iI tu)]), (bb, aB g nn f1)] kc_1 ks_2 [(0, .ref h0), (1, .int (iI x)), (2, .int (iI b))] 13 [] := by
    intro N
    induction N with
    | zero => intro i b c1 f1 T1 hi13_0 hi13_1 hi13_2 hi13_3 hi13_4 hi13_5 hi13_6 hN; exact absurd hN (Nat.not_lt_zero _)
    | succ N ihL13 =>
      intro i b c1 f1 T1 hi13_0 hi13_1 hi13_2 hi13_3 hi13_4 hi13_5 hi13_6 hN13
      have hbb := hb2_bnd hi13_0 hi13_1
      refine v_iload_n fx 2 dX0_addCode_13 rfl rfl ?_
      refine v_if_le fx 69 dX0_addCode_14 (by decide) rfl (by omega) (fun h_11 => ?_) (fun h_11 => ?_)
      ·
        have hi0 := hb2_end hi13_0 (by omega)
        exact v_vretE fx [(h0, ob 0 [.ref bb, .int (iI c1), .int (iI pl), .int (iI tu)]), (bb, aB g nn f1)] [0, 1] hr dX0_addCode_69 rfl rfl ⟨bb, nn, f1, c1, rfl, rfl, (by first | omega | rfl | assumption), (by first | omega | rfl | assumption), (by first | omega | rfl | assumption), (by exact hi13_4), (by exact hj), (by exact EncC_eq hi13_5 (by rw [hi0] at hi13_6; simpa [cbits] using hi13_6))⟩
      ·
        obtain ⟨i1, rfl, hb1⟩ := hb2_step hi13_0 (by omega)
        refine v_iload_n fx 1 dX0_addCode_17 rfl rfl ?_
        refine v_iload_n fx 2 dX0_addCode_18 rfl rfl ?_
        obtain ⟨t_12, et_12⟩ : ∃ x9 : Int32, (iI x) &&& (iI b) = x9 := ⟨_, rfl⟩
        refine v_iand fx t_12 dX0_addCode_19 et_12 rfl ?_
        refine v_any (fun z_13 hz_13 ez_13 => ?_)
        have hab := and_bit (by assumption) ez_13 hz_13 hi13_0 hi13_1 (by omega)
        refine v_if_eq fx 52 dX0_addCode_20 (by decide) rfl (by omega) (fun h_14 => ?_) (fun h_14 => ?_)
        ·
          have hbt := (hab.resolve_left (fun h => h.1 h_14)).2
          clear hab
          refine v_aload_n fx 0 dX0_addCode_52 rfl rfl ?_
          refine v_dup fx dX0_addCode_53 rfl rfl ?_
          refine v_get fx 0 1 inX0 k122 dX0_addCode_54 rfl rfl (by decide) rfl rfl rfl ?_
          refine v_iconst fx dX0_addCode_57 rfl ?_
          refine v_iadd fx (c1 + 1) dX0_addCode_58 (by rfl) rfl ?_
          refine v_put fx 0 1 [(h0, ob 0 [.ref bb, .int (iI (c1 + 1)), .int (iI pl), .int (iI tu)]), (bb, aB g nn f1)] inX0 tyX0_ok nmX0 k122 dX0_addCode_59 rfl rfl (by decide) rfl rfl rfl rfl (nl rfl) rfl rfl ?_
          refine v_iload_n fx 2 dX0_addCode_62 rfl rfl ?_
          refine v_iconst fx dX0_addCode_63 rfl ?_
          refine v_ishr fx (iI (b / 2)) dX0_addCode_64 (iI_shr (k := 1) (by omega) _ (by decide)) rfl ?_
          refine v_istore_n fx [(2, .int (iI (b / 2))), (0, .ref h0), (1, .int (iI x))] dX0_addCode_65 (by decide) rfl rfl ?_
          refine v_goto fx 13 dX0_addCode_66 (by decide) ?_
          refine v_lv [1, 2, 0] [(0, .ref h0), (1, .int (iI x)), (2, .int (iI (b / 2)))] rfl ?_
          exact ihL13 i1 (b / 2) (c1 + 1) f1 (T1 ++ [x.toNat.testBit i1]) (by assumption) (by omega) (by omega) (by omega) (by first | exact hi13_4 | exact bF_updE (by assumption) hi13_4) (by rw [hbt]; first | exact EncC_0 hi13_5 | exact EncC_1w hi13_5 hp5 (by assumption) (by assumption) (by assumption) (by assumption) (by omega)) (by exact cb_step hi13_6) (by omega)
        ·
          have hbt := (hab.resolve_right (fun h => h_14 h.1)).2
          clear hab
          refine v_aload_n fx 0 dX0_addCode_23 rfl rfl ?_
          refine v_get fx 0 0 inX0 k121 dX0_addCode_24 rfl rfl (by decide) rfl rfl rfl ?_
          refine v_aload_n fx 0 dX0_addCode_27 rfl rfl ?_
          refine v_get fx 0 1 inX0 k122 dX0_addCode_28 rfl rfl (by decide) rfl rfl rfl ?_
          refine v_iconst fx dX0_addCode_31 rfl ?_
          refine v_ishr fx (iI (c1 / 8)) dX0_addCode_32 (iI_shr (k := 3) (by omega) _ (by decide)) rfl ?_
          refine v_dup2 fx dX0_addCode_33 rfl rfl rfl ?_
          refine v_bald fx 1 dX0_addCode_34 rfl (by omega) (by omega) rfl ?_
          refine v_iconst fx dX0_addCode_35 rfl ?_
          refine v_aload_n fx 0 dX0_addCode_36 rfl rfl ?_
          refine v_get fx 0 1 inX0 k122 dX0_addCode_37 rfl rfl (by decide) rfl rfl rfl ?_
          refine v_bipush fx dX0_addCode_40 (by decide +kernel) rfl ?_
          refine v_iand fx (iI (c1 % 8)) dX0_addCode_42 (iI_and (by omega) 3 (by decide +kernel)) rfl ?_
          refine v_aload_n fx 0 dX0_addCode_43 rfl rfl ?_
          refine v_get fx 0 3 inX0 k124 dX0_addCode_44 rfl rfl (by decide) rfl rfl rfl ?_
          obtain ⟨t_15, et_15⟩ : ∃ x9 : Int32, (iI (c1 % 8)) ^^^ (iI tu) = x9 := ⟨_, rfl⟩
          refine v_ixor fx t_15 dX0_addCode_47 et_15 rfl ?_
          obtain ⟨t_16, et_16⟩ : ∃ x9 : Int32, (iI 1) <<< (t_15 &&& 31) = x9 := ⟨_, rfl⟩
          refine v_ishl fx t_16 dX0_addCode_48 et_16 rfl ?_
          obtain ⟨t_17, et_17⟩ : ∃ x9 : Int32, (f1 (c1 / 8).toNat) ||| t_16 = x9 := ⟨_, rfl⟩
          refine v_ior fx t_17 dX0_addCode_49 et_17 rfl ?_
          refine v_i2b fx ((t_17).toInt8.toInt32) dX0_addCode_50 rfl rfl ?_
          obtain ⟨f_18, ef_18⟩ : ∃ f9 : Nat → Int32, upd f1 (c1 / 8).toNat (vp_nar .byte ((t_17).toInt8.toInt32)) = f9 := ⟨_, rfl⟩
          refine v_bast fx 1 f_18 [(h0, ob 0 [.ref bb, .int (iI c1), .int (iI pl), .int (iI tu)]), (bb, aB g nn f_18)] dX0_addCode_51 rfl (by omega) (by omega) ef_18 rfl rfl ?_
          refine v_aload_n fx 0 dX0_addCode_52 rfl rfl ?_
          refine v_dup fx dX0_addCode_53 rfl rfl ?_
          refine v_get fx 0 1 inX0 k122 dX0_addCode_54 rfl rfl (by decide) rfl rfl rfl ?_
          refine v_iconst fx dX0_addCode_57 rfl ?_
          refine v_iadd fx (c1 + 1) dX0_addCode_58 (by rfl) rfl ?_
          refine v_put fx 0 1 [(h0, ob 0 [.ref bb, .int (iI (c1 + 1)), .int (iI pl), .int (iI tu)]), (bb, aB g nn f_18)] inX0 tyX0_ok nmX0 k122 dX0_addCode_59 rfl rfl (by decide) rfl rfl rfl rfl (nl rfl) rfl rfl ?_
          refine v_iload_n fx 2 dX0_addCode_62 rfl rfl ?_
          refine v_iconst fx dX0_addCode_63 rfl ?_
          refine v_ishr fx (iI (b / 2)) dX0_addCode_64 (iI_shr (k := 1) (by omega) _ (by decide)) rfl ?_
          refine v_istore_n fx [(2, .int (iI (b / 2))), (0, .ref h0), (1, .int (iI x))] dX0_addCode_65 (by decide) rfl rfl ?_
          refine v_goto fx 13 dX0_addCode_66 (by decide) ?_
          refine v_lv [1, 2, 0] [(0, .ref h0), (1, .int (iI x)), (2, .int (iI (b / 2)))] rfl ?_
          exact ihL13 i1 (b / 2) (c1 + 1) f_18 (T1 ++ [x.toNat.testBit i1]) (by assumption) (by omega) (by omega) (by omega) (by first | exact hi13_4 | exact bF_updE (by assumption) hi13_4) (by rw [hbt]; first | exact EncC_0 hi13_5 | exact EncC_1w hi13_5 hp5 (by assumption) (by assumption) (by assumption) (by assumption) (by omega)) (by exact cb_step hi13_6) (by omega)
  refine v_lv [1, 2, 0] [(0, .ref h0), (1, .int (iI x)), (2, .int (iI (t_1 / 2)))] rfl ?_
  exact L13 _ (clen x) (t_1 / 2) c ff T (by unfold hb2; omega) (by omega) (by omega) (by omega) (by exact hbF0) (by exact hE0) (by rfl) (Nat.lt_succ_self _)
abbrev po_c_X6_runCode_e (g : GG) (h0 : Nat) (r : Nat) (o : Nat) (td : Nat) (w : Int) (x : Int) (bk : Int) : Option Value → va_W → Prop := fun v8 w8 => ∃ q : Int, v8 = some (.int (iI q)) ∧ w8 = [(h0, ob 6 [.ref r, .int (iI w), .ref o, .ref td])] ∧ (1 ≤ q ∧ q < 16384) ∧ ((clen q : Int) ≤ rbB x bk) ∧ (q = rcode x bk)
set_option maxHeartbeats 4000000 in
set_option maxRecDepth 100000 in
theorem c_X6_runCode_e (l : Launch) (g : GG) (h0 : Nat) (r : Nat) (o : Nat) (td : Nat) (w : Int) (x : Int) (bk : Int) (hp0 : 0 ≤ x ∧ x < 104) (hp1 : 0 ≤ bk ∧ bk ≤ 1) : Ct l g yX6_runCode (wM yX6_runCode cX6_runCode 5 (some .int)) (rmD 0 0 0) [.ref h0, .int (iI x), .int (iI bk)] [(h0, ob 6 [.ref r, .int (iI w), .ref o, .ref td])] (po_c_X6_runCode_e g h0 r o td w x bk) := by
  refine Ct_of (by decide +kernel) (Nat.le_of_ble_eq_true rfl) ?_
  intro p9 e9 s9 m9 ag9 bl9 mt9 c9 A9 fx hr hnm
  refine v_iload_n fx 2 dX6_runCode_0 rfl rfl ?_
  refine v_if_eq fx 10 dX6_runCode_1 (by decide) rfl (by omega) (fun h_1 => ?_) (fun h_1 => ?_)
  ·
    refine v_getsN fx 0 (by decide) n745 dX6_runCode_10 rfl ?_
    refine v_astore_n fx [(3, .ref (g.2.2.1 0)), (0, .ref h0), (1, .int (iI x)), (2, .int (iI bk))] dX6_runCode_13 (by decide) rfl rfl ?_
    refine v_iload_n fx 2 dX6_runCode_14 rfl rfl ?_
    refine v_aload_n fx 0 dX6_runCode_15 rfl rfl ?_
    refine v_tlen (n := 91) fx 0 (by decide) rfl dX6_runCode_16 rfl ?_
    refine v_isub fx (x - 91) dX6_runCode_17 (by rfl) rfl ?_
    refine v_istore fx [(4, .int (iI (x - 91))), (3, .ref (g.2.2.1 0)), (0, .ref h0), (1, .int (iI x)), (2, .int (iI bk))] dX6_runCode_18 (by decide) rfl rfl ?_
    refine v_iload_n fx 3 dX6_runCode_20 rfl rfl ?_
    refine v_if_lt fx 33 dX6_runCode_21 (by decide) rfl (by omega) (fun h0 => absurd h0 (by omega)) (fun h_2 => ?_)
    refine v_iload fx 0 dX6_runCode_24 rfl rfl ?_
    refine v_if_ge fx 33 dX6_runCode_26 (by decide) rfl (by omega) (fun h_3 => ?_) (fun h_3 => ?_)
    ·
      refine v_iload fx 0 dX6_runCode_33 rfl rfl ?_
      refine v_if_lt fx 56 dX6_runCode_35 (by decide) rfl (by omega) (fun h0 => absurd h0 (by omega)) (fun h_4 => ?_)
      refine v_iload fx 0 dX6_runCode_38 rfl rfl ?_
      refine v_getsN fx 2 (by decide) n746 dX6_runCode_40 rfl ?_
      refine v_tlen (n := 13) fx 2 (by decide) rfl dX6_runCode_43 rfl ?_
      refine v_icmp_ge fx 56 dX6_runCode_44 (by decide) rfl (by omega) (by omega) (fun h0 => absurd h0 (by omega)) (fun h_5 => ?_)
      refine v_getsN fx 2 (by decide) n746 dX6_runCode_47 rfl ?_
      refine v_iload fx 0 dX6_runCode_50 rfl rfl ?_
      refine v_tald fx 2 (by first | decide | omega) (by refine ⟨by omega, ?_⟩; show x - 91 < 13; omega) dX6_runCode_52 rfl ?_
      refine v_any (fun z_6 hz_6 ez_6 => ?_)
      have ht2 := tabl_at (by omega) ez_6 hz_6
      have hrc : z_6 = rcode x bk := rcode_2 (by omega) ez_6 hz_6
      refine v_goto fx 57 dX6_runCode_53 (by decide) ?_
      exact v_iret fx [(h0, ob 6 [.ref r, .int (iI w), .ref o, .ref td])] [0] hr dX6_runCode_57 rfl rfl (nl rfl) (nl rfl) ⟨z_6, rfl, rfl, (by first | omega | rfl | assumption), (by exact rbB_of (by omega) ⟨fun h => by omega, fun h1 h2 => by omega⟩ (by have := clen13 ht2; omega)), (by exact hrc)⟩
    ·
      refine v_aload_n fx 1 dX6_runCode_29 rfl rfl ?_
      refine v_iload_n fx 3 dX6_runCode_30 rfl rfl ?_
      refine v_tald fx 0 (by first | decide | omega) (by refine ⟨by omega, ?_⟩; show x < 91; omega) dX6_runCode_31 rfl ?_
      refine v_any (fun z_7 hz_7 ez_7 => ?_)
      have ht1 : (1 ≤ z_7 ∧ z_7 < 16384) ∧ (x = 0 → (clen z_7 : Int) ≤ 10) ∧ (1 ≤ x → x < 64 → (clen z_7 : Int) ≤ 7 * x - 1 - bk) := by
                first | exact (show bk = 1 by omega) ▸ tab_at tab_b (by omega) ez_7 hz_7 | exact (show bk = 0 by omega) ▸ tab_at tab_w (by omega) ez_7 hz_7
      have hrc : z_7 = rcode x bk := by
                first | exact (show bk = 1 by omega) ▸ rcode_1 (by omega) ez_7 hz_7 | exact (show bk = 0 by omega) ▸ rcode_0 (by omega) ez_7 hz_7
      exact v_iret fx [(h0, ob 6 [.ref r, .int (iI w), .ref o, .ref td])] [0] hr dX6_runCode_32 rfl rfl (nl rfl) (nl rfl) ⟨z_7, rfl, rfl, (by exact ht1.1), (by exact rbB_of (by omega) ht1.2 (by have := clen13 ht1.1; omega)), (by exact hrc)⟩
  ·
    refine v_getsN fx 1 (by decide) n744 dX6_runCode_4 rfl ?_
    refine v_goto fx 13 dX6_runCode_7 (by decide) ?_
    refine v_astore_n fx [(3, .ref (g.2.2.1 1)), (0, .ref h0), (1, .int (iI x)), (2, .int (iI bk))] dX6_runCode_13 (by decide) rfl rfl ?_
    refine v_iload_n fx 2 dX6_runCode_14 rfl rfl ?_
    refine v_aload_n fx 0 dX6_runCode_15 rfl rfl ?_
    refine v_tlen (n := 91) fx 1 (by decide) rfl dX6_runCode_16 rfl ?_
    refine v_isub fx (x - 91) dX6_runCode_17 (by rfl) rfl ?_
    refine v_istore fx [(4, .int (iI (x - 91))), (3, .ref (g.2.2.1 1)), (0, .ref h0), (1, .int (iI x)), (2, .int (iI bk))] dX6_runCode_18 (by decide) rfl rfl ?_
    refine v_iload_n fx 3 dX6_runCode_20 rfl rfl ?_
    refine v_if_lt fx 33 dX6_runCode_21 (by decide) rfl (by omega) (fun h0 => absurd h0 (by omega)) (fun h_8 => ?_)
    refine v_iload fx 0 dX6_runCode_24 rfl rfl ?_
    refine v_if_ge fx 33 dX6_runCode_26 (by decide) rfl (by omega) (fun h_9 => ?_) (fun h_9 => ?_)
    ·
      refine v_iload fx 0 dX6_runCode_33 rfl rfl ?_
      refine v_if_lt fx 56 dX6_runCode_35 (by decide) rfl (by omega) (fun h0 => absurd h0 (by omega)) (fun h_10 => ?_)
      refine v_iload fx 0 dX6_runCode_38 rfl rfl ?_
      refine v_getsN fx 2 (by decide) n746 dX6_runCode_40 rfl ?_
      refine v_tlen (n := 13) fx 2 (by decide) rfl dX6_runCode_43 rfl ?_
      refine v_icmp_ge fx 56 dX6_runCode_44 (by decide) rfl (by omega) (by omega) (fun h0 => absurd h0 (by omega)) (fun h_11 => ?_)
      refine v_getsN fx 2 (by decide) n746 dX6_runCode_47 rfl ?_
      refine v_iload fx 0 dX6_runCode_50 rfl rfl ?_
      refine v_tald fx 2 (by first | decide | omega) (by refine ⟨by omega, ?_⟩; show x - 91 < 13; omega) dX6_runCode_52 rfl ?_
      refine v_any (fun z_12 hz_12 ez_12 => ?_)
      have ht2 := tabl_at (by omega) ez_12 hz_12
      have hrc : z_12 = rcode x bk := rcode_2 (by omega) ez_12 hz_12
      refine v_goto fx 57 dX6_runCode_53 (by decide) ?_
      exact v_iret fx [(h0, ob 6 [.ref r, .int (iI w), .ref o, .ref td])] [0] hr dX6_runCode_57 rfl rfl (nl rfl) (nl rfl) ⟨z_12, rfl, rfl, (by first | omega | rfl | assumption), (by exact rbB_of (by omega) ⟨fun h => by omega, fun h1 h2 => by omega⟩ (by have := clen13 ht2; omega)), (by exact hrc)⟩
    ·
      refine v_aload_n fx 1 dX6_runCode_29 rfl rfl ?_
      refine v_iload_n fx 3 dX6_runCode_30 rfl rfl ?_
      refine v_tald fx 1 (by first | decide | omega) (by refine ⟨by omega, ?_⟩; show x < 91; omega) dX6_runCode_31 rfl ?_
      refine v_any (fun z_13 hz_13 ez_13 => ?_)
      have ht1 : (1 ≤ z_13 ∧ z_13 < 16384) ∧ (x = 0 → (clen z_13 : Int) ≤ 10) ∧ (1 ≤ x → x < 64 → (clen z_13 : Int) ≤ 7 * x - 1 - bk) := by
                first | exact (show bk = 1 by omega) ▸ tab_at tab_b (by omega) ez_13 hz_13 | exact (show bk = 0 by omega) ▸ tab_at tab_w (by omega) ez_13 hz_13
      have hrc : z_13 = rcode x bk := by
                first | exact (show bk = 1 by omega) ▸ rcode_1 (by omega) ez_13 hz_13 | exact (show bk = 0 by omega) ▸ rcode_0 (by omega) ez_13 hz_13
      exact v_iret fx [(h0, ob 6 [.ref r, .int (iI w), .ref o, .ref td])] [0] hr dX6_runCode_32 rfl rfl (nl rfl) (nl rfl) ⟨z_13, rfl, rfl, (by exact ht1.1), (by exact rbB_of (by omega) ht1.2 (by have := clen13 ht1.1; omega)), (by exact hrc)⟩
abbrev po_c_X6_writeRun_e (g : GG) (h0 : Nat) (r : Nat) (o : Nat) (td : Nat) (w : Int) (ba : Nat) (n : Nat) (f : Nat → Int32) (cb : Int) (pl : Int) (tu : Int) (x : Int) (bk : Int) (T : List Bool) : Option Value → va_W → Nat → Nat → Prop := fun v8 w8 kc8 ks8 => ∃ b2 : Nat, ∃ n2 : Nat, ∃ f2 : Nat → Int32, ∃ c2 : Int, v8 = none ∧ w8 = [(h0, ob 6 [.ref r, .int (iI w), .ref o, .ref td]), (o, ob 0 [.ref b2, .int (iI c2), .int (iI pl), .int (iI tu)]), (b2, aB g n2 f2)] ∧ (ks8 + 2 * n ≤ 2 * n2 ∧ 64 * kc8 ≤ ks8 ∧ n ≤ n2 ∧ n2 ≤ 130000) ∧ (c2 ≤ 8 * (n2 : Int) ∧ cb ≤ c2) ∧ (bF f2) ∧ ((x = 0 ∧ c2 ≤ cb + 10) ∨ (1 ≤ x ∧ c2 ≤ cb + 7 * x - 1 - bk)) ∧ (EncC n2 f2 tu c2 (T ++ runS x bk))
set_option maxHeartbeats 4000000 in
set_option maxRecDepth 100000 in
theorem c_X6_writeRun_e (l : Launch) (g : GG) (h0 : Nat) (r : Nat) (o : Nat) (td : Nat) (w : Int) (ba : Nat) (n : Nat) (f : Nat → Int32) (cb : Int) (pl : Int) (tu : Int) (x : Int) (bk : Int) (T : List Bool) (hp0 : 0 ≤ cb ∧ cb ≤ 8 * (n : Int) ∧ 64 ≤ n ∧ n ≤ 130000) (hp1 : bF f) (hp2 : 0 ≤ x ∧ x ≤ 3000) (hp3 : 0 ≤ bk ∧ bk ≤ 1) (hp4 : cb ≤ 508000) (hp5 : EncC n f tu cb T) (hp6 : TU tu) : CtE l g yX6_writeRun (wM yX6_writeRun cX6_writeRun 4 none) (rmD 4 4070 530000) [.ref h0, .int (iI x), .int (iI bk)] [(h0, ob 6 [.ref r, .int (iI w), .ref o, .ref td]), (o, ob 0 [.ref ba, .int (iI cb), .int (iI pl), .int (iI tu)]), (ba, aB g n f)] (po_c_X6_writeRun_e g h0 r o td w ba n f cb pl tu x bk T) := by
  refine CtE_of (by decide +kernel) (Nat.le_of_ble_eq_true rfl) ?_
  intro p9 e9 s9 m9 ag9 bl9 mt9 c9 A9 fx hr hnm
  refine v_iload_n fx 1 dX6_writeRun_0 rfl rfl ?_
  refine v_istore_n fx [(3, .int (iI x)), (0, .ref h0), (1, .int (iI x)), (2, .int (iI bk))] dX6_writeRun_1 (by decide) rfl rfl ?_
  have L2 : ∀ (N : Nat) (y : Int) (T1 : List Bool) (b1 : Nat) (n1 : Nat) (f1 : Nat → Int32) (c1 : Int) (cl : Nat) (sl : Nat), (bF f1) → (c1 ≤ 8 * (n1 : Int) ∧ cb ≤ c1 ∧ n ≤ n1 ∧ n1 ≤ 130000 ∧ sl + 2 * n ≤ 2 * n1 ∧ 64 * cl ≤ sl) → ((y = x ∧ c1 = cb) ∨ (y = x - 2560 ∧ 0 ≤ y ∧ c1 ≤ cb + 13)) → (EncC n1 f1 tu c1 T1) → (RunI x y bk T T1) → y.toNat < N → V p9 l e9 (rmD 4 4070 530000) s9 m9 ag9 bl9 mt9 c9 4 g A9 (MQE bl9 (cQE g (po_c_X6_writeRun_e g h0 r o td w ba n f cb pl tu x bk T) A9) ag9 s9 A9) [(h0, ob 6 [.ref r, .int (iI w), .ref o, .ref td]), (o, ob 0 [.ref b1, .int (iI c1), .int (iI pl), .int (iI tu)]), (b1, aB g n1 f1)] cl sl [(0, .ref h0), (1, .int (iI x)), (2, .int (iI bk)), (3, .int (iI y))] 2 [] := by
    intro N
    induction N with
    | zero => intro y T1 b1 n1 f1 c1 cl sl hi2_0 hi2_1 hi2_2 hi2_3 hi2_4 hN; exact absurd hN (Nat.not_lt_zero _)
    | succ N ihL2 =>
      intro y T1 b1 n1 f1 c1 cl sl hi2_0 hi2_1 hi2_2 hi2_3 hi2_4 hN2
      refine v_iload_n fx 3 dX6_writeRun_2 rfl rfl ?_
      refine v_sipush fx dX6_writeRun_3 (by decide +kernel) rfl ?_
      refine v_icmp_lt fx 32 dX6_writeRun_6 (by decide) rfl (by omega) (by omega) (fun h_1 => ?_) (fun h_1 => ?_)
      ·
        refine v_iload_n fx 3 dX6_writeRun_32 rfl rfl ?_
        refine v_bipush fx dX6_writeRun_33 (by decide +kernel) rfl ?_
        refine v_icmp_lt fx 57 dX6_writeRun_35 (by decide) rfl (by omega) (by omega) (fun h_2 => ?_) (fun h_2 => ?_)
        ·
          refine v_aload_n fx 0 dX6_writeRun_57 rfl rfl ?_
          refine v_get fx 0 2 inX6 k168 dX6_writeRun_58 rfl rfl (by decide) rfl rfl rfl ?_
          refine v_aload_n fx 0 dX6_writeRun_61 rfl rfl ?_
          refine v_iload_n fx 3 dX6_writeRun_62 rfl rfl ?_
          refine v_bipush fx dX6_writeRun_63 (by decide +kernel) rfl ?_
          refine v_irem fx (iI (y % 64)) dX6_writeRun_65 (by decide) (iI_rem (by omega) 64 (by decide) (by decide)) rfl ?_
          refine v_iload_n fx 2 dX6_writeRun_66 rfl rfl ?_
          refine v_callV (As := [.int (iI (y % 64)), .int (iI bk)]) (rest := [.ref o]) fx [0] [1, 2] [(h0, ob 6 [.ref r, .int (iI w), .ref o, .ref td])] [(o, ob 0 [.ref b1, .int (iI c1), .int (iI pl), .int (iI tu)]), (b1, aB g n1 f1)] 2 0 (c_X6_runCode_e l g h0 r o td w (y % 64) bk (by first | omega | decide | assumption) (by first | omega | decide | assumption)) dX6_writeRun_67 k740 k742 k10 k51 k743 ykX6_runCode rfl rfl rfl rfl rfl rfl rfl rfl (nl rfl) ⟨nl rfl, nl rfl⟩ ⟨(by show cl + 0 ≤ 4070; omega), (by show sl + 0 ≤ 530000; omega)⟩ rfl (fun v9 w9 hu => ?_)
          obtain ⟨q_3, rfl, rfl, u_4, u_5, u_6⟩ := hu
          refine v_is (wn := [(o, ob 0 [.ref b1, .int (iI c1), .int (iI pl), .int (iI tu)]), (b1, aB g n1 f1), (h0, ob 6 [.ref r, .int (iI w), .ref o, .ref td])]) (cn := cl) (sn := sl) (sn2 := [.int (iI q_3), .ref o]) rfl rfl rfl rfl ?_
          have hrb := rbB_lt (x := y % 64) (b := bk) (by omega)
          have hq2 := u_6
          clear u_6
          refine v_callVE (As := [.int (iI q_3)]) (rest := []) fx [0, 1] [2] [(o, ob 0 [.ref b1, .int (iI c1), .int (iI pl), .int (iI tu)]), (b1, aB g n1 f1)] [(h0, ob 6 [.ref r, .int (iI w), .ref o, .ref td])] 1 0 (c_X0_addCode_e l g o b1 n1 f1 c1 pl tu q_3 T1 (by first | omega | decide | assumption) (by first | assumption | exact hp1) (by first | omega | decide | assumption) (by first | omega | decide | assumption) (by assumption) (by assumption)) dX6_writeRun_70 k703 k704 k705 k50 k706 ykX0_addCode rfl rfl rfl rfl rfl rfl rfl rfl (nl rfl) ⟨nl rfl, nl rfl⟩ ⟨(by show cl + 1 ≤ 4070; omega), (by show sl + 260000 ≤ 530000; omega)⟩ rfl (fun v9 w9 kc_7 ks_8 hu => ?_)
          obtain ⟨b2_9, n2_10, f2_11, c2_12, rfl, rfl, u_13, u_14, u_15, u_16, u_17, u_18⟩ := hu
          refine v_is (wn := [(h0, ob 6 [.ref r, .int (iI w), .ref o, .ref td]), (o, ob 0 [.ref b2_9, .int (iI c2_12), .int (iI pl), .int (iI tu)]), (b2_9, aB g n2_10 f2_11)]) (cn := cl + kc_7) (sn := sl + ks_8) (sn2 := []) rfl rfl rfl rfl ?_
          exact v_vretE fx [(h0, ob 6 [.ref r, .int (iI w), .ref o, .ref td]), (o, ob 0 [.ref b2_9, .int (iI c2_12), .int (iI pl), .int (iI tu)]), (b2_9, aB g n2_10 f2_11)] [0, 1, 2] hr dX6_writeRun_73 rfl rfl ⟨b2_9, n2_10, f2_11, c2_12, rfl, rfl, (by first | omega | rfl | assumption), (by first | omega | rfl | assumption), (by assumption), (by omega), (by first | exact EncC_eq (by assumption) (RunI_e1 hi2_4 (by omega) hq1 hq2) | exact EncC_eq (by assumption) (RunI_e2 hi2_4 (by omega) hq2))⟩
        ·
          refine v_aload_n fx 0 dX6_writeRun_38 rfl rfl ?_
          refine v_get fx 0 2 inX6 k168 dX6_writeRun_39 rfl rfl (by decide) rfl rfl rfl ?_
          refine v_aload_n fx 0 dX6_writeRun_42 rfl rfl ?_
          refine v_iload_n fx 3 dX6_writeRun_43 rfl rfl ?_
          refine v_bipush fx dX6_writeRun_44 (by decide +kernel) rfl ?_
          refine v_idiv fx (iI (y / 64)) dX6_writeRun_46 (by decide) (iI_div (by omega) 64 (by decide) (by decide)) rfl ?_
          refine v_bipush fx dX6_writeRun_47 (by decide +kernel) rfl ?_
          refine v_iadd fx ((y / 64) + 63) dX6_writeRun_49 (by rfl) rfl ?_
          refine v_iload_n fx 2 dX6_writeRun_50 rfl rfl ?_
          refine v_callV (As := [.int (iI ((y / 64) + 63)), .int (iI bk)]) (rest := [.ref o]) fx [0] [1, 2] [(h0, ob 6 [.ref r, .int (iI w), .ref o, .ref td])] [(o, ob 0 [.ref b1, .int (iI c1), .int (iI pl), .int (iI tu)]), (b1, aB g n1 f1)] 2 0 (c_X6_runCode_e l g h0 r o td w ((y / 64) + 63) bk (by first | omega | decide | assumption) (by first | omega | decide | assumption)) dX6_writeRun_51 k740 k742 k10 k51 k743 ykX6_runCode rfl rfl rfl rfl rfl rfl rfl rfl (nl rfl) ⟨nl rfl, nl rfl⟩ ⟨(by show cl + 0 ≤ 4070; omega), (by show sl + 0 ≤ 530000; omega)⟩ rfl (fun v9 w9 hu => ?_)
          obtain ⟨q_19, rfl, rfl, u_20, u_21, u_22⟩ := hu
          refine v_is (wn := [(o, ob 0 [.ref b1, .int (iI c1), .int (iI pl), .int (iI tu)]), (b1, aB g n1 f1), (h0, ob 6 [.ref r, .int (iI w), .ref o, .ref td])]) (cn := cl) (sn := sl) (sn2 := [.int (iI q_19), .ref o]) rfl rfl rfl rfl ?_
          have hq1 := u_22
          clear u_22
          refine v_callVE (As := [.int (iI q_19)]) (rest := []) fx [0, 1] [2] [(o, ob 0 [.ref b1, .int (iI c1), .int (iI pl), .int (iI tu)]), (b1, aB g n1 f1)] [(h0, ob 6 [.ref r, .int (iI w), .ref o, .ref td])] 1 0 (c_X0_addCode_e l g o b1 n1 f1 c1 pl tu q_19 T1 (by first | omega | decide | assumption) (by first | assumption | exact hp1) (by first | omega | decide | assumption) (by first | omega | decide | assumption) (by assumption) (by assumption)) dX6_writeRun_54 k703 k704 k705 k50 k706 ykX0_addCode rfl rfl rfl rfl rfl rfl rfl rfl (nl rfl) ⟨nl rfl, nl rfl⟩ ⟨(by show cl + 1 ≤ 4070; omega), (by show sl + 260000 ≤ 530000; omega)⟩ rfl (fun v9 w9 kc_23 ks_24 hu => ?_)
          obtain ⟨b2_25, n2_26, f2_27, c2_28, rfl, rfl, u_29, u_30, u_31, u_32, u_33, u_34⟩ := hu
          refine v_is (wn := [(h0, ob 6 [.ref r, .int (iI w), .ref o, .ref td]), (o, ob 0 [.ref b2_25, .int (iI c2_28), .int (iI pl), .int (iI tu)]), (b2_25, aB g n2_26 f2_27)]) (cn := cl + kc_23) (sn := sl + ks_24) (sn2 := []) rfl rfl rfl rfl ?_
          refine v_aload_n fx 0 dX6_writeRun_57 rfl rfl ?_
          refine v_get fx 0 2 inX6 k168 dX6_writeRun_58 rfl rfl (by decide) rfl rfl rfl ?_
          refine v_aload_n fx 0 dX6_writeRun_61 rfl rfl ?_
          refine v_iload_n fx 3 dX6_writeRun_62 rfl rfl ?_
          refine v_bipush fx dX6_writeRun_63 (by decide +kernel) rfl ?_
          refine v_irem fx (iI (y % 64)) dX6_writeRun_65 (by decide) (iI_rem (by omega) 64 (by decide) (by decide)) rfl ?_
          refine v_iload_n fx 2 dX6_writeRun_66 rfl rfl ?_
          refine v_callV (As := [.int (iI (y % 64)), .int (iI bk)]) (rest := [.ref o]) fx [0] [1, 2] [(h0, ob 6 [.ref r, .int (iI w), .ref o, .ref td])] [(o, ob 0 [.ref b2_25, .int (iI c2_28), .int (iI pl), .int (iI tu)]), (b2_25, aB g n2_26 f2_27)] 2 0 (c_X6_runCode_e l g h0 r o td w (y % 64) bk (by first | omega | decide | assumption) (by first | omega | decide | assumption)) dX6_writeRun_67 k740 k742 k10 k51 k743 ykX6_runCode rfl rfl rfl rfl rfl rfl rfl rfl (nl rfl) ⟨nl rfl, nl rfl⟩ ⟨(by show (cl + kc_23) + 0 ≤ 4070; omega), (by show (sl + ks_24) + 0 ≤ 530000; omega)⟩ rfl (fun v9 w9 hu => ?_)
          obtain ⟨q_35, rfl, rfl, u_36, u_37, u_38⟩ := hu
          refine v_is (wn := [(o, ob 0 [.ref b2_25, .int (iI c2_28), .int (iI pl), .int (iI tu)]), (b2_25, aB g n2_26 f2_27), (h0, ob 6 [.ref r, .int (iI w), .ref o, .ref td])]) (cn := cl + kc_23) (sn := sl + ks_24) (sn2 := [.int (iI q_35), .ref o]) rfl rfl rfl rfl ?_
          have hrb := rbB_lt (x := y % 64) (b := bk) (by omega)
          have hq2 := u_38
          clear u_38
          refine v_callVE (As := [.int (iI q_35)]) (rest := []) fx [0, 1] [2] [(o, ob 0 [.ref b2_25, .int (iI c2_28), .int (iI pl), .int (iI tu)]), (b2_25, aB g n2_26 f2_27)] [(h0, ob 6 [.ref r, .int (iI w), .ref o, .ref td])] 1 0 (c_X0_addCode_e l g o b2_25 n2_26 f2_27 c2_28 pl tu q_35 ((T1) ++ codeB (q_19)) (by first | omega | decide | assumption) (by first | assumption | exact hp1) (by first | omega | decide | assumption) (by first | omega | decide | assumption) (by assumption) (by assumption)) dX6_writeRun_70 k703 k704 k705 k50 k706 ykX0_addCode rfl rfl rfl rfl rfl rfl rfl rfl (nl rfl) ⟨nl rfl, nl rfl⟩ ⟨(by show (cl + kc_23) + 1 ≤ 4070; omega), (by show (sl + ks_24) + 260000 ≤ 530000; omega)⟩ rfl (fun v9 w9 kc_39 ks_40 hu => ?_)
          obtain ⟨b2_41, n2_42, f2_43, c2_44, rfl, rfl, u_45, u_46, u_47, u_48, u_49, u_50⟩ := hu
          refine v_is (wn := [(h0, ob 6 [.ref r, .int (iI w), .ref o, .ref td]), (o, ob 0 [.ref b2_41, .int (iI c2_44), .int (iI pl), .int (iI tu)]), (b2_41, aB g n2_42 f2_43)]) (cn := cl + kc_23 + kc_39) (sn := sl + ks_24 + ks_40) (sn2 := []) rfl rfl rfl rfl ?_
          exact v_vretE fx [(h0, ob 6 [.ref r, .int (iI w), .ref o, .ref td]), (o, ob 0 [.ref b2_41, .int (iI c2_44), .int (iI pl), .int (iI tu)]), (b2_41, aB g n2_42 f2_43)] [0, 1, 2] hr dX6_writeRun_73 rfl rfl ⟨b2_41, n2_42, f2_43, c2_44, rfl, rfl, (by first | omega | rfl | assumption), (by first | omega | rfl | assumption), (by assumption), (by omega), (by first | exact EncC_eq (by assumption) (RunI_e1 hi2_4 (by omega) hq1 hq2) | exact EncC_eq (by assumption) (RunI_e2 hi2_4 (by omega) hq2))⟩
      ·
        refine v_aload_n fx 0 dX6_writeRun_9 rfl rfl ?_
        refine v_get fx 0 2 inX6 k168 dX6_writeRun_10 rfl rfl (by decide) rfl rfl rfl ?_
        refine v_aload_n fx 0 dX6_writeRun_13 rfl rfl ?_
        refine v_bipush fx dX6_writeRun_14 (by decide +kernel) rfl ?_
        refine v_iload_n fx 2 dX6_writeRun_16 rfl rfl ?_
        refine v_callV (As := [.int (iI 103), .int (iI bk)]) (rest := [.ref o]) fx [0] [1, 2] [(h0, ob 6 [.ref r, .int (iI w), .ref o, .ref td])] [(o, ob 0 [.ref b1, .int (iI c1), .int (iI pl), .int (iI tu)]), (b1, aB g n1 f1)] 2 0 (c_X6_runCode_e l g h0 r o td w 103 bk (by first | omega | decide | assumption) (by first | omega | decide | assumption)) dX6_writeRun_17 k740 k742 k10 k51 k743 ykX6_runCode rfl rfl rfl rfl rfl rfl rfl rfl (nl rfl) ⟨nl rfl, nl rfl⟩ ⟨(by show cl + 0 ≤ 4070; omega), (by show sl + 0 ≤ 530000; omega)⟩ rfl (fun v9 w9 hu => ?_)
        obtain ⟨q_51, rfl, rfl, u_52, u_53, u_54⟩ := hu
        refine v_is (wn := [(o, ob 0 [.ref b1, .int (iI c1), .int (iI pl), .int (iI tu)]), (b1, aB g n1 f1), (h0, ob 6 [.ref r, .int (iI w), .ref o, .ref td])]) (cn := cl) (sn := sl) (sn2 := [.int (iI q_51), .ref o]) rfl rfl rfl rfl ?_
        have hq0 := u_54
        clear u_54
        refine v_callVE (As := [.int (iI q_51)]) (rest := []) fx [0, 1] [2] [(o, ob 0 [.ref b1, .int (iI c1), .int (iI pl), .int (iI tu)]), (b1, aB g n1 f1)] [(h0, ob 6 [.ref r, .int (iI w), .ref o, .ref td])] 1 0 (c_X0_addCode_e l g o b1 n1 f1 c1 pl tu q_51 T1 (by first | omega | decide | assumption) (by first | assumption | exact hp1) (by first | omega | decide | assumption) (by first | omega | decide | assumption) (by assumption) (by assumption)) dX6_writeRun_20 k703 k704 k705 k50 k706 ykX0_addCode rfl rfl rfl rfl rfl rfl rfl rfl (nl rfl) ⟨nl rfl, nl rfl⟩ ⟨(by show cl + 1 ≤ 4070; omega), (by show sl + 260000 ≤ 530000; omega)⟩ rfl (fun v9 w9 kc_55 ks_56 hu => ?_)
        obtain ⟨b2_57, n2_58, f2_59, c2_60, rfl, rfl, u_61, u_62, u_63, u_64, u_65, u_66⟩ := hu
        refine v_is (wn := [(h0, ob 6 [.ref r, .int (iI w), .ref o, .ref td]), (o, ob 0 [.ref b2_57, .int (iI c2_60), .int (iI pl), .int (iI tu)]), (b2_57, aB g n2_58 f2_59)]) (cn := cl + kc_55) (sn := sl + ks_56) (sn2 := []) rfl rfl rfl rfl ?_
        refine v_iincW fx 3 (y - 2560) [(3, .int (iI (y - 2560))), (0, .ref h0), (1, .int (iI x)), (2, .int (iI bk))] dX6_writeRun_23 rfl (by omega) (by decide) rfl rfl ?_
        refine v_goto fx 2 dX6_writeRun_29 (by decide) ?_
        refine v_lv [1, 2, 3, 0] [(0, .ref h0), (1, .int (iI x)), (2, .int (iI bk)), (3, .int (iI (y - 2560)))] rfl ?_
        exact ihL2 (y - 2560) ((T1) ++ codeB (q_51)) b2_57 n2_58 f2_59 c2_60 (cl + kc_55) (sl + ks_56) (by assumption) (by omega) (by omega) (by assumption) (by exact RunI_b hi2_4 (by omega) (by omega) hq0) (by omega)
  refine v_lv [1, 2, 3, 0] [(0, .ref h0), (1, .int (iI x)), (2, .int (iI bk)), (3, .int (iI x))] rfl ?_
  exact L2 _ x T ba n f cb 0 0 (by exact hp1) (by omega) (by omega) (by exact hp5) (by exact RunI_0) (Nat.lt_succ_self _)
