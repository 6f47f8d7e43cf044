/-! THE PUBLIC METHODS, with what they hold -/
theorem put_out {fw : Nat → Int32} {w x on : Int} (h : x < 0 ∨ w ≤ x) : ∀ y, 0 ≤ y → y < w → sBit fw y = if y = x then decide (on = 1) else sBit fw y := fun y h1 h2 => by rw [if_neg (by omega)]
theorem nar_on {on : Int} (h : 0 ≤ on ∧ on ≤ 1) : vp_nar .boolean (iI on) = iI on := by
  rcases (show on = 0 ∨ on = 1 by omega) with rfl | rfl <;> decide
theorem putR_in {f f2 : Nat → Int32} {vw x on : Int} (e : upd f x.toNat (vp_nar .boolean (iI on)) = f2) (h : 0 ≤ on ∧ on ≤ 1) (hx : 0 ≤ x) : ∀ y, 0 ≤ y → y < vw → f2 y.toNat = if y = x then iI on else f y.toNat := by
  intro y h1 h2
  rw [← e]
  by_cases q : y = x
  · rw [if_pos q, q, pk_us, nar_on h]
  · rw [if_neg q, pk_un (by omega)]
theorem putR_out {f : Nat → Int32} {vw x on : Int} (h : x < 0 ∨ vw ≤ x) : ∀ y, 0 ≤ y → y < vw → f y.toNat = if y = x then iI on else f y.toNat := fun y h1 h2 => by rw [if_neg (by omega)]
theorem SmpW_put {w x on : Int} {fw f2 fm m2 : Nat → Int32} (h : SmpW w fw fm) (hon : 0 ≤ on ∧ on ≤ 1) (h1 : ∀ y, 0 ≤ y → y < w → sBit f2 y = if y = x then decide (on = 1) else sBit fw y) (h2 : ∀ y, 0 ≤ y → y < w → m2 y.toNat = if y = x then iI on else fm y.toNat) : SmpW w f2 m2 := by
  intro y hy hw
  rw [h1 y hy hw, h2 y hy hw]
  by_cases q : y = x
  · rw [if_pos q, if_pos q]
    rcases (show on = 0 ∨ on = 1 by omega) with rfl | rfl
    · rw [if_neg (by decide)]
    · rw [if_pos (by decide)]
  · rw [if_neg q, if_neg q]; exact h y hy hw
theorem SmpW_0 {w : Int} {fw fm : Nat → Int32} (h1 : ∀ x, 0 ≤ x → x < w → sBit fw x = false) (h2 : ∀ x, 0 ≤ x → x < w → fm x.toNat = 0) : SmpW w fw fm := by
  intro y hy hw
  rw [h1 y hy hw, h2 y hy hw, if_neg (by decide)]; decide
def EndC (w c c2 : Int) (F F2 : Nat → Int) (fi f2 fw w2 : Nat → Int32) : Prop := (c2 = c ∧ f2 = fi ∧ F2 = F ∧ w2 = fw) ∨ (c2 = c + 1 ∧ (∀ y : Nat, (y : Int) ≤ c → F2 y = F y) ∧ (∀ j : Nat, (j : Int) < F c.toNat → f2 j = fi j) ∧ RowQ fw f2 (F2 c.toNat) (F2 (c.toNat + 1)) w ∧ ∀ x, 0 ≤ x → x < w → sBit w2 x = false)
def EndR (vw vg g2 : Int) (fm f2 fg f3 : Nat → Int32) : Prop := (g2 = vg ∧ f2 = fm ∧ f3 = fg) ∨ (g2 = vg + 1 ∧ (∀ x, 0 ≤ x → x < vw → f3 (3000 * vg + x).toNat = fm x.toNat) ∧ (∀ j : Nat, (j : Int) < 3000 * vg → f3 j = fg j) ∧ ∀ x, 0 ≤ x → x < vw → f2 x.toNat = 0)
theorem nar_bZ {f : Nat → Int32} (h : bZ f) (k : Nat) : vp_nar .boolean (f k) = f k := by
  obtain ⟨a, ha, e⟩ := iI_any (f k)
  have h1 := bZ_at h e ha
  rw [e]; exact nar_on h1
theorem eR_1 {vg i : Int} {f f4 f5 f6 : Nat → Int32} (e : upd f5 (3000 * vg + i).toNat (vp_nar .boolean (f4 i.toNat)) = f6) (hz : bZ f4) (h : ∀ x, 0 ≤ x → x < i → f5 (3000 * vg + x).toNat = f x.toNat) (h4 : ∀ x, i ≤ x → f4 x.toNat = f x.toNat) (h0 : 0 ≤ vg ∧ 0 ≤ i) : ∀ x, 0 ≤ x → x < i + 1 → f6 (3000 * vg + x).toNat = f x.toNat := by
  intro x h1 h2
  rw [← e]
  by_cases q : x = i
  · subst q; rw [pk_us, nar_bZ hz]; exact h4 x (Int.le_refl _)
  · rw [pk_un (by omega)]; exact h x h1 (by omega)
theorem eR_2 {vg i : Int} {v : Int32} {fg f5 f6 : Nat → Int32} (e : upd f5 (3000 * vg + i).toNat v = f6) (h : ∀ j : Nat, (j : Int) < 3000 * vg → f5 j = fg j) (h0 : 0 ≤ vg ∧ 0 ≤ i) : ∀ j : Nat, (j : Int) < 3000 * vg → f6 j = fg j := by
  intro j hj
  rw [← e, pk_un (by omega)]; exact h j hj
theorem eR_3 {i : Int} {f4 f7 : Nat → Int32} (e : upd f4 i.toNat (vp_nar .boolean (iI 0)) = f7) (h : ∀ x, 0 ≤ x → x < i → f4 x.toNat = 0) (h0 : 0 ≤ i) : ∀ x, 0 ≤ x → x < i + 1 → f7 x.toNat = 0 := by
  intro x h1 h2
  rw [← e]
  by_cases q : x = i
  · subst q; rw [pk_us]; decide
  · rw [pk_un (by omega)]; exact h x h1 (by omega)
theorem eR_4 {i : Int} {v : Int32} {f f4 f7 : Nat → Int32} (e : upd f4 i.toNat v = f7) (h : ∀ x, i ≤ x → f4 x.toNat = f x.toNat) (h0 : 0 ≤ i) : ∀ x, i + 1 ≤ x → f7 x.toNat = f x.toNat := by
  intro x h1
  rw [← e, pk_un (by omega)]; exact h x (by omega)
abbrev po_c_X7_put_e (g : GG) (h0 : Nat) (kd : Int) (w : Int) (sm : Nat) (r : Nat) (wr : Nat) (fd : Nat) (wt : Nat) (rd : Nat) (fl : Int) (rp : Int) (lo : Int) (sa : Nat) (fw : Nat → Int32) (x : Int) (on : Int) : Option Value → va_W → Prop := fun v8 w8 => ∃ q : Int, ∃ f2 : Nat → Int32, v8 = some (.int (iI q)) ∧ w8 = [(h0, ob 7 [.int (iI kd), .int (iI w), .ref sm, .ref r, .ref wr, .ref fd, .ref wt, .ref rd, .int (iI fl), .int (iI rp), .int (iI lo)]), (sm, ob 4 [.int (iI w), .ref sa]), (sa, aI g (((w + 31) / 32).toNat) f2)] ∧ ((q = 1 ∧ 0 ≤ x ∧ x < w) ∨ (q = 0 ∧ (x < 0 ∨ w ≤ x))) ∧ (∀ y, 0 ≤ y → y < w → sBit f2 y = if y = x then decide (on = 1) else sBit fw y)
set_option maxHeartbeats 4000000 in
set_option maxRecDepth 100000 in
theorem c_X7_put_e (l : Launch) (g : GG) (h0 : Nat) (kd : Int) (w : Int) (sm : Nat) (r : Nat) (wr : Nat) (fd : Nat) (wt : Nat) (rd : Nat) (fl : Int) (rp : Int) (lo : Int) (sa : Nat) (fw : Nat → Int32) (x : Int) (on : Int) (hp0 : -2147483648 ≤ x ∧ x < 2147483648) (hp1 : 0 ≤ on ∧ on ≤ 1) (hp2 : 1 ≤ w ∧ w ≤ 3000) : Ct l g yX7_put (wM yX7_put cX7_put 3 (some .boolean)) (rmD 1 0 0) [.ref h0, .int (iI x), .int (iI on)] [(h0, ob 7 [.int (iI kd), .int (iI w), .ref sm, .ref r, .ref wr, .ref fd, .ref wt, .ref rd, .int (iI fl), .int (iI rp), .int (iI lo)]), (sm, ob 4 [.int (iI w), .ref sa]), (sa, aI g (((w + 31) / 32).toNat) fw)] (po_c_X7_put_e g h0 kd w sm r wr fd wt rd fl rp lo sa fw x on) := by
  refine Ct_of (by decide +kernel) (Nat.le_of_ble_eq_true rfl) ?_
  intro p9 e9 s9 m9 ag9 bl9 mt9 c9 A9 fx hr hnm
  refine v_iload_n fx 1 dX7_put_0 rfl rfl ?_
  refine v_if_lt fx 12 dX7_put_1 (by decide) rfl (by omega) (fun h_1 => ?_) (fun h_1 => ?_)
  ·
    refine v_iconst fx dX7_put_12 rfl ?_
    exact v_zret fx [(h0, ob 7 [.int (iI kd), .int (iI w), .ref sm, .ref r, .ref wr, .ref fd, .ref wt, .ref rd, .int (iI fl), .int (iI rp), .int (iI lo)]), (sm, ob 4 [.int (iI w), .ref sa]), (sa, aI g (((w + 31) / 32).toNat) fw)] [0, 1, 2] hr dX7_put_13 (by first | rfl | exact nar_z _ (by omega)) rfl rfl (nl rfl) (nl rfl) ⟨0, fw, rfl, rfl, (by first | omega | rfl | assumption), (by exact put_out (by omega))⟩
  ·
    refine v_iload_n fx 1 dX7_put_4 rfl rfl ?_
    refine v_aload_n fx 0 dX7_put_5 rfl rfl ?_
    refine v_get fx 0 1 inX7 k277 dX7_put_6 rfl rfl (by decide) rfl rfl rfl ?_
    refine v_icmp_lt fx 14 dX7_put_9 (by decide) rfl (by omega) (by omega) (fun h_2 => ?_) (fun h_2 => ?_)
    ·
      refine v_aload_n fx 0 dX7_put_14 rfl rfl ?_
      refine v_get fx 0 2 inX7 k278 dX7_put_15 rfl rfl (by decide) rfl rfl rfl ?_
      refine v_iload_n fx 1 dX7_put_18 rfl rfl ?_
      refine v_iload_n fx 2 dX7_put_19 rfl rfl ?_
      refine v_callV (As := [.int (iI x), .int (iI on)]) (rest := []) fx [1, 2] [0] [(sm, ob 4 [.int (iI w), .ref sa]), (sa, aI g (((w + 31) / 32).toNat) fw)] [(h0, ob 7 [.int (iI kd), .int (iI w), .ref sm, .ref r, .ref wr, .ref fd, .ref wt, .ref rd, .int (iI fl), .int (iI rp), .int (iI lo)])] 2 0 (c_X4_set_e l g sm sa (((w + 31) / 32).toNat) fw (iI w) x on (by first | omega | decide | assumption) (by first | omega | decide | assumption) (by first | omega | decide | assumption)) dX7_put_20 k314 k315 k316 k48 k317 ykX4_set rfl rfl rfl rfl rfl rfl rfl rfl (nl rfl) ⟨nl rfl, nl rfl⟩ ⟨(nl rfl), (nl rfl)⟩ rfl (fun v9 w9 hu => ?_)
      obtain ⟨f2_3, rfl, rfl, u_4⟩ := hu
      refine v_is (wn := [(h0, ob 7 [.int (iI kd), .int (iI w), .ref sm, .ref r, .ref wr, .ref fd, .ref wt, .ref rd, .int (iI fl), .int (iI rp), .int (iI lo)]), (sm, ob 4 [.int (iI w), .ref sa]), (sa, aI g (((w + 31) / 32).toNat) f2_3)]) (cn := 0) (sn := 0) (sn2 := []) rfl rfl rfl rfl ?_
      have hst := u_4
      refine v_iconst fx dX7_put_23 rfl ?_
      exact v_zret fx [(h0, ob 7 [.int (iI kd), .int (iI w), .ref sm, .ref r, .ref wr, .ref fd, .ref wt, .ref rd, .int (iI fl), .int (iI rp), .int (iI lo)]), (sm, ob 4 [.int (iI w), .ref sa]), (sa, aI g (((w + 31) / 32).toNat) f2_3)] [0, 1, 2] hr dX7_put_24 (by first | rfl | exact nar_z _ (by omega)) rfl rfl (nl rfl) (nl rfl) ⟨1, f2_3, rfl, rfl, (by first | omega | rfl | assumption), (by exact fun y h1 h2 => hst y h1)⟩
    ·
      refine v_iconst fx dX7_put_12 rfl ?_
      exact v_zret fx [(h0, ob 7 [.int (iI kd), .int (iI w), .ref sm, .ref r, .ref wr, .ref fd, .ref wt, .ref rd, .int (iI fl), .int (iI rp), .int (iI lo)]), (sm, ob 4 [.int (iI w), .ref sa]), (sa, aI g (((w + 31) / 32).toNat) fw)] [0, 1, 2] hr dX7_put_13 (by first | rfl | exact nar_z _ (by omega)) rfl rfl (nl rfl) (nl rfl) ⟨0, fw, rfl, rfl, (by first | omega | rfl | assumption), (by exact put_out (by omega))⟩
abbrev po_c_X7_endRow_e (g : GG) (h0 : Nat) (kd : Int) (w : Int) (sm : Nat) (r : Nat) (wr : Nat) (fd : Nat) (wt : Nat) (rd : Nat) (fl : Int) (rp : Int) (lo : Int) (sa : Nat) (fw : Nat → Int32) (rs : Nat) (it : Nat) (m : Nat) (c : Int) (F : Nat → Int) (fs : Nat → Int32) (fi : Nat → Int32) : Option Value → va_W → Nat → Nat → Prop := fun v8 w8 kc8 ks8 => ∃ q : Int, ∃ i2 : Nat, ∃ n2 : Nat, ∃ s2 : Nat → Int32, ∃ f2 : Nat → Int32, ∃ w2 : Nat → Int32, ∃ c2 : Int, ∃ F2 : Nat → Int, v8 = some (.int (iI q)) ∧ w8 = [(h0, ob 7 [.int (iI kd), .int (iI w), .ref sm, .ref r, .ref wr, .ref fd, .ref wt, .ref rd, .int (iI fl), .int (iI rp), .int (iI lo)]), (sm, ob 4 [.int (iI w), .ref sa]), (sa, aI g (((w + 31) / 32).toNat) w2), (r, ob 2 [.ref rs, .ref i2, .int (iI c2)]), (rs, aI g 27 s2), (i2, aI g n2 f2)] ∧ (LB c2 F2 s2 n2) ∧ (RI w c2 F2 f2) ∧ (F2 (c2.toNat + 1) = F2 c2.toNat) ∧ (ks8 + 2 * m ≤ 2 * n2 ∧ 64 * kc8 ≤ ks8 ∧ m ≤ n2 ∧ n2 ≤ 160000) ∧ ((q = 1 ∧ c < 24 ∧ c2 = c + 1) ∨ (q = 0 ∧ c = 24 ∧ c2 = c)) ∧ (EndC w c c2 F F2 fi f2 fw w2)
set_option maxHeartbeats 4000000 in
set_option maxRecDepth 100000 in
theorem c_X7_endRow_e (l : Launch) (g : GG) (h0 : Nat) (kd : Int) (w : Int) (sm : Nat) (r : Nat) (wr : Nat) (fd : Nat) (wt : Nat) (rd : Nat) (fl : Int) (rp : Int) (lo : Int) (sa : Nat) (fw : Nat → Int32) (rs : Nat) (it : Nat) (m : Nat) (c : Int) (F : Nat → Int) (fs : Nat → Int32) (fi : Nat → Int32) (hp0 : LB c F fs m) (hp1 : RI w c F fi) (hp2 : F (c.toNat + 1) = F c.toNat) (hp3 : 1 ≤ w ∧ w ≤ 3000) (hp4 : m ≤ 160000) (hp5 : c ≤ 24) : CtE l g yX7_endRow (wM yX7_endRow cX7_endRow 1 (some .boolean)) (rmD 5 11100 1300000) [.ref h0] [(h0, ob 7 [.int (iI kd), .int (iI w), .ref sm, .ref r, .ref wr, .ref fd, .ref wt, .ref rd, .int (iI fl), .int (iI rp), .int (iI lo)]), (sm, ob 4 [.int (iI w), .ref sa]), (sa, aI g (((w + 31) / 32).toNat) fw), (r, ob 2 [.ref rs, .ref it, .int (iI c)]), (rs, aI g 27 fs), (it, aI g m fi)] (po_c_X7_endRow_e g h0 kd w sm r wr fd wt rd fl rp lo sa fw rs it m c F fs fi) := by
  refine CtE_of (by decide +kernel) (Nat.le_of_ble_eq_true rfl) ?_
  intro p9 e9 s9 m9 ag9 bl9 mt9 c9 A9 fx hr hnm
  have hc := LB_c hp0
  refine v_aload_n fx 0 dX7_endRow_0 rfl rfl ?_
  refine v_get fx 0 3 inX7 k279 dX7_endRow_1 rfl rfl (by decide) rfl rfl rfl ?_
  refine v_callV (As := []) (rest := []) fx [3] [0, 1, 2, 4, 5] [(r, ob 2 [.ref rs, .ref it, .int (iI c)])] [(h0, ob 7 [.int (iI kd), .int (iI w), .ref sm, .ref r, .ref wr, .ref fd, .ref wt, .ref rd, .int (iI fl), .int (iI rp), .int (iI lo)]), (sm, ob 4 [.int (iI w), .ref sa]), (sa, aI g (((w + 31) / 32).toNat) fw), (rs, aI g 27 fs), (it, aI g m fi)] 0 0 (c_X2_count l g r rs it c ) dX7_endRow_4 k322 k323 k324 k49 k325 ykX2_count rfl rfl rfl rfl rfl rfl rfl rfl (nl rfl) ⟨nl rfl, nl rfl⟩ ⟨(nl rfl), (nl rfl)⟩ rfl (fun v9 w9 hu => ?_)
  obtain ⟨rfl, rfl⟩ := hu
  refine v_is (wn := [(h0, ob 7 [.int (iI kd), .int (iI w), .ref sm, .ref r, .ref wr, .ref fd, .ref wt, .ref rd, .int (iI fl), .int (iI rp), .int (iI lo)]), (sm, ob 4 [.int (iI w), .ref sa]), (sa, aI g (((w + 31) / 32).toNat) fw), (rs, aI g 27 fs), (it, aI g m fi), (r, ob 2 [.ref rs, .ref it, .int (iI c)])]) (cn := 0) (sn := 0) (sn2 := [.int (iI c)]) rfl rfl rfl rfl ?_
  refine v_bipush fx dX7_endRow_7 (by decide +kernel) rfl ?_
  refine v_icmp_lt fx 14 dX7_endRow_9 (by decide) rfl (by omega) (by omega) (fun h_1 => ?_) (fun h_1 => ?_)
  ·
    refine v_aload_n fx 0 dX7_endRow_14 rfl rfl ?_
    refine v_get fx 0 2 inX7 k278 dX7_endRow_15 rfl rfl (by decide) rfl rfl rfl ?_
    refine v_aload_n fx 0 dX7_endRow_18 rfl rfl ?_
    refine v_get fx 0 3 inX7 k279 dX7_endRow_19 rfl rfl (by decide) rfl rfl rfl ?_
    refine v_callVE (As := [.ref r]) (rest := []) fx [1, 2, 5, 3, 4] [0] [(sm, ob 4 [.int (iI w), .ref sa]), (sa, aI g (((w + 31) / 32).toNat) fw), (r, ob 2 [.ref rs, .ref it, .int (iI c)]), (rs, aI g 27 fs), (it, aI g m fi)] [(h0, ob 7 [.int (iI kd), .int (iI w), .ref sm, .ref r, .ref wr, .ref fd, .ref wt, .ref rd, .int (iI fl), .int (iI rp), .int (iI lo)])] 1 0 (c_X4_addChangesTo_e l g sm sa w fw r rs it m c F fs fi (by exact hp0) (by exact hp1) (by exact hp2) (by first | omega | decide | assumption) (by first | omega | decide | assumption) (by first | omega | decide | assumption)) dX7_endRow_22 k326 k327 k328 k48 k329 ykX4_addChangesTo rfl rfl rfl rfl rfl rfl rfl rfl (nl rfl) ⟨nl rfl, nl rfl⟩ ⟨(by show 0 + (6000 + 5001) ≤ 11100; omega), (nl rfl)⟩ rfl (fun v9 w9 kc_2 ks_3 hu => ?_)
    obtain ⟨i2_4, nz, sz, fz, ee, rfl, rfl, u_5, u_6, u_7, u_8, u_9, u_10⟩ := hu
    refine v_is (wn := [(h0, ob 7 [.int (iI kd), .int (iI w), .ref sm, .ref r, .ref wr, .ref fd, .ref wt, .ref rd, .int (iI fl), .int (iI rp), .int (iI lo)]), (sm, ob 4 [.int (iI w), .ref sa]), (sa, aI g (((w + 31) / 32).toNat) fw), (r, ob 2 [.ref rs, .ref i2_4, .int (iI c)]), (rs, aI g 27 sz), (i2_4, aI g nz fz)]) (cn := kc_2) (sn := ks_3) (sn2 := []) rfl (Nat.zero_add _) (Nat.zero_add _) rfl ?_
    have hL1 := u_5
    have hR1 := RI_keep hp0 hp1 (E := F c.toNat) (Int.le_refl _) u_7 ee
    have hI1 := u_9
    have hk1 := u_7
    have hQ1 := u_10
    refine v_aload_n fx 0 dX7_endRow_25 rfl rfl ?_
    refine v_get fx 0 3 inX7 k279 dX7_endRow_26 rfl rfl (by decide) rfl rfl rfl ?_
    refine v_callV (As := []) (rest := []) fx [3, 4] [0, 1, 2, 5] [(r, ob 2 [.ref rs, .ref i2_4, .int (iI c)]), (rs, aI g 27 sz)] [(h0, ob 7 [.int (iI kd), .int (iI w), .ref sm, .ref r, .ref wr, .ref fd, .ref wt, .ref rd, .int (iI fl), .int (iI rp), .int (iI lo)]), (sm, ob 4 [.int (iI w), .ref sa]), (sa, aI g (((w + 31) / 32).toNat) fw), (i2_4, aI g nz fz)] 0 0 (c_X2_close l g r rs i2_4 nz c (fU F (c.toNat + 1) ee) sz fz (by exact hL1) (by first | omega | decide | assumption)) dX7_endRow_29 k339 k340 k341 k49 k342 ykX2_close rfl rfl rfl rfl rfl rfl rfl rfl (nl rfl) ⟨nl rfl, nl rfl⟩ ⟨(by show kc_2 + 0 ≤ 11100; omega), (by show ks_3 + 0 ≤ 1300000; omega)⟩ rfl (fun v9 w9 hu => ?_)
    obtain ⟨sy, rfl, rfl, u_11⟩ := hu
    refine v_is (wn := [(h0, ob 7 [.int (iI kd), .int (iI w), .ref sm, .ref r, .ref wr, .ref fd, .ref wt, .ref rd, .int (iI fl), .int (iI rp), .int (iI lo)]), (sm, ob 4 [.int (iI w), .ref sa]), (sa, aI g (((w + 31) / 32).toNat) fw), (i2_4, aI g nz fz), (r, ob 2 [.ref rs, .ref i2_4, .int (iI (c + 1))]), (rs, aI g 27 sy)]) (cn := kc_2) (sn := ks_3) (sn2 := []) rfl rfl rfl rfl ?_
    have hL2 := LB_close hL1 (by omega)
    rw [← u_11] at hL2
    have hR2 := RI_close hL1 hR1 (by rw [fU_s, fU_b]; exact hI1) (fU F (c.toNat + 1) ee (c.toNat + 1))
    refine v_aload_n fx 0 dX7_endRow_32 rfl rfl ?_
    refine v_get fx 0 2 inX7 k278 dX7_endRow_33 rfl rfl (by decide) rfl rfl rfl ?_
    refine v_callV (As := []) (rest := []) fx [1, 2] [0, 3, 4, 5] [(sm, ob 4 [.int (iI w), .ref sa]), (sa, aI g (((w + 31) / 32).toNat) fw)] [(h0, ob 7 [.int (iI kd), .int (iI w), .ref sm, .ref r, .ref wr, .ref fd, .ref wt, .ref rd, .int (iI fl), .int (iI rp), .int (iI lo)]), (i2_4, aI g nz fz), (r, ob 2 [.ref rs, .ref i2_4, .int (iI (c + 1))]), (rs, aI g 27 sy)] 0 0 (c_X4_whiten_e l g sm sa (((w + 31) / 32).toNat) fw (iI w) (by first | omega | decide | assumption)) dX7_endRow_36 k347 k348 k349 k48 k350 ykX4_whiten rfl rfl rfl rfl rfl rfl rfl rfl (nl rfl) ⟨nl rfl, nl rfl⟩ ⟨(by show kc_2 + 0 ≤ 11100; omega), (by show ks_3 + 0 ≤ 1300000; omega)⟩ rfl (fun v9 w9 hu => ?_)
    obtain ⟨f2_12, rfl, rfl, u_13⟩ := hu
    refine v_is (wn := [(h0, ob 7 [.int (iI kd), .int (iI w), .ref sm, .ref r, .ref wr, .ref fd, .ref wt, .ref rd, .int (iI fl), .int (iI rp), .int (iI lo)]), (i2_4, aI g nz fz), (r, ob 2 [.ref rs, .ref i2_4, .int (iI (c + 1))]), (rs, aI g 27 sy), (sm, ob 4 [.int (iI w), .ref sa]), (sa, aI g (((w + 31) / 32).toNat) f2_12)]) (cn := kc_2) (sn := ks_3) (sn2 := []) rfl rfl rfl rfl ?_
    have hwz := u_13
    refine v_iconst fx dX7_endRow_39 rfl ?_
    exact v_zretE fx [(h0, ob 7 [.int (iI kd), .int (iI w), .ref sm, .ref r, .ref wr, .ref fd, .ref wt, .ref rd, .int (iI fl), .int (iI rp), .int (iI lo)]), (sm, ob 4 [.int (iI w), .ref sa]), (sa, aI g (((w + 31) / 32).toNat) f2_12), (r, ob 2 [.ref rs, .ref i2_4, .int (iI (c + 1))]), (rs, aI g 27 sy), (i2_4, aI g nz fz)] [0, 4, 5, 2, 3, 1] hr dX7_endRow_40 (by first | rfl | exact nar_z _ (by omega)) rfl rfl ⟨1, i2_4, nz, sy, fz, f2_12, (c + 1), (fU (fU F (c.toNat + 1) ee) (c.toNat + 2) (fU F (c.toNat + 1) ee (c.toNat + 1))), rfl, rfl, (by exact hL2), (by exact hR2), (by exact fU_open (by omega)), (by first | omega | rfl | assumption), (by first | omega | rfl | assumption), (by exact Or.inr ⟨rfl, fun y hy => by rw [fU_c (by omega), fU_c (by omega)], hk1, by rw [fU_c (by omega), fU_b, fU_c (by omega), fU_s]; exact hQ1, fun x h1 h2 => sBit_0 hwz (by omega)⟩)⟩
  ·
    refine v_iconst fx dX7_endRow_12 rfl ?_
    exact v_zretE fx [(h0, ob 7 [.int (iI kd), .int (iI w), .ref sm, .ref r, .ref wr, .ref fd, .ref wt, .ref rd, .int (iI fl), .int (iI rp), .int (iI lo)]), (sm, ob 4 [.int (iI w), .ref sa]), (sa, aI g (((w + 31) / 32).toNat) fw), (r, ob 2 [.ref rs, .ref it, .int (iI c)]), (rs, aI g 27 fs), (it, aI g m fi)] [0, 1, 2, 5, 3, 4] hr dX7_endRow_13 (by first | rfl | exact nar_z _ (by omega)) rfl rfl ⟨0, it, m, fs, fi, fw, c, F, rfl, rfl, (by exact hp0), (by exact hp1), (by exact hp2), (by first | omega | rfl | assumption), (by first | omega | rfl | assumption), (by exact Or.inl ⟨rfl, rfl, rfl, rfl⟩)⟩
abbrev po_c_X7_order_e (g : GG) (h0 : Nat) (kd : Int) (w : Int) (sm : Nat) (r : Nat) (wr : Nat) (fd : Nat) (wt : Nat) (rd : Nat) (fl : Int) (rp : Int) (lo : Int) (wa : Nat) (fa : Nat) (c1 : Int) (c2 : Int) (p1 : Int) (p3 : Int) (tu : Int) (tv : Int) (x : Int) : Option Value → va_W → Prop := fun v8 w8 => ∃ q : Int, ∃ l2 : Int, ∃ t1 : Int, ∃ t2 : Int, v8 = some (.int (iI q)) ∧ w8 = [(h0, ob 7 [.int (iI kd), .int (iI w), .ref sm, .ref r, .ref wr, .ref fd, .ref wt, .ref rd, .int (iI fl), .int (iI rp), .int (iI l2)]), (wr, ob 0 [.ref wa, .int (iI c1), .int (iI p1), .int (iI t1)]), (fd, ob 0 [.ref fa, .int (iI c2), .int (iI p3), .int (iI t2)])] ∧ ((q = 0 ∧ x = lo) ∨ (q = 1 ∧ x ≠ lo)) ∧ (l2 = x) ∧ (t1 = 7 - 7 * x ∧ 0 ≤ t2 ∧ t2 ≤ 7)
set_option maxHeartbeats 4000000 in
set_option maxRecDepth 100000 in
theorem c_X7_order_e (l : Launch) (g : GG) (h0 : Nat) (kd : Int) (w : Int) (sm : Nat) (r : Nat) (wr : Nat) (fd : Nat) (wt : Nat) (rd : Nat) (fl : Int) (rp : Int) (lo : Int) (wa : Nat) (fa : Nat) (c1 : Int) (c2 : Int) (p1 : Int) (p3 : Int) (tu : Int) (tv : Int) (x : Int) (hp0 : 0 ≤ x ∧ x ≤ 1) (hp1 : 0 ≤ lo ∧ lo ≤ 1) (hp2 : tu = 7 - 7 * lo) (hp3 : 0 ≤ tv ∧ tv ≤ 7) : Ct l g yX7_order (wM yX7_order cX7_order 2 (some .int)) (rmD 1 0 0) [.ref h0, .int (iI x)] [(h0, ob 7 [.int (iI kd), .int (iI w), .ref sm, .ref r, .ref wr, .ref fd, .ref wt, .ref rd, .int (iI fl), .int (iI rp), .int (iI lo)]), (wr, ob 0 [.ref wa, .int (iI c1), .int (iI p1), .int (iI tu)]), (fd, ob 0 [.ref fa, .int (iI c2), .int (iI p3), .int (iI tv)])] (po_c_X7_order_e g h0 kd w sm r wr fd wt rd fl rp lo wa fa c1 c2 p1 p3 tu tv x) := by
  refine Ct_of (by decide +kernel) (Nat.le_of_ble_eq_true rfl) ?_
  intro p9 e9 s9 m9 ag9 bl9 mt9 c9 A9 fx hr hnm
  refine v_aload_n fx 0 dX7_order_0 rfl rfl ?_
  refine v_get fx 0 10 inX7 k286 dX7_order_1 rfl rfl (by decide) rfl rfl rfl ?_
  refine v_iload_n fx 1 dX7_order_4 rfl rfl ?_
  refine v_icmp_ne fx 10 dX7_order_5 (by decide) rfl (by omega) (by omega) (fun h_1 => ?_) (fun h_1 => ?_)
  ·
    refine v_aload_n fx 0 dX7_order_10 rfl rfl ?_
    refine v_iload_n fx 1 dX7_order_11 rfl rfl ?_
    refine v_put fx 0 10 [(h0, ob 7 [.int (iI kd), .int (iI w), .ref sm, .ref r, .ref wr, .ref fd, .ref wt, .ref rd, .int (iI fl), .int (iI rp), .int (iI x)]), (wr, ob 0 [.ref wa, .int (iI c1), .int (iI p1), .int (iI tu)]), (fd, ob 0 [.ref fa, .int (iI c2), .int (iI p3), .int (iI tv)])] inX7 tyX7_ok nmX7 k286 dX7_order_12 rfl rfl (by decide) rfl rfl (by first | exact nar_z _ (by omega) | simp_all) (by first | exact fit_z _ (by omega) | simp_all) (nl rfl) rfl rfl ?_
    refine v_aload_n fx 0 dX7_order_15 rfl rfl ?_
    refine v_get fx 0 4 inX7 k280 dX7_order_16 rfl rfl (by decide) rfl rfl rfl ?_
    refine v_iload_n fx 1 dX7_order_19 rfl rfl ?_
    refine v_callV (As := [.int (iI x)]) (rest := []) fx [1] [0, 2] [(wr, ob 0 [.ref wa, .int (iI c1), .int (iI p1), .int (iI tu)])] [(h0, ob 7 [.int (iI kd), .int (iI w), .ref sm, .ref r, .ref wr, .ref fd, .ref wt, .ref rd, .int (iI fl), .int (iI rp), .int (iI x)]), (fd, ob 0 [.ref fa, .int (iI c2), .int (iI p3), .int (iI tv)])] 1 0 (c_X0_setLowestFirst l g wr wa c1 p1 tu x (by first | omega | decide | assumption)) dX7_order_20 k954 k955 k956 k50 k957 ykX0_setLowestFirst rfl rfl rfl rfl rfl rfl rfl rfl (nl rfl) ⟨nl rfl, nl rfl⟩ ⟨(nl rfl), (nl rfl)⟩ rfl (fun v9 w9 hu => ?_)
    obtain ⟨t2_2, rfl, rfl, u_3⟩ := hu
    refine v_is (wn := [(h0, ob 7 [.int (iI kd), .int (iI w), .ref sm, .ref r, .ref wr, .ref fd, .ref wt, .ref rd, .int (iI fl), .int (iI rp), .int (iI x)]), (fd, ob 0 [.ref fa, .int (iI c2), .int (iI p3), .int (iI tv)]), (wr, ob 0 [.ref wa, .int (iI c1), .int (iI p1), .int (iI t2_2)])]) (cn := 0) (sn := 0) (sn2 := []) rfl rfl rfl rfl ?_
    refine v_aload_n fx 0 dX7_order_23 rfl rfl ?_
    refine v_get fx 0 5 inX7 k281 dX7_order_24 rfl rfl (by decide) rfl rfl rfl ?_
    refine v_iload_n fx 1 dX7_order_27 rfl rfl ?_
    refine v_callV (As := [.int (iI x)]) (rest := []) fx [1] [0, 2] [(fd, ob 0 [.ref fa, .int (iI c2), .int (iI p3), .int (iI tv)])] [(h0, ob 7 [.int (iI kd), .int (iI w), .ref sm, .ref r, .ref wr, .ref fd, .ref wt, .ref rd, .int (iI fl), .int (iI rp), .int (iI x)]), (wr, ob 0 [.ref wa, .int (iI c1), .int (iI p1), .int (iI t2_2)])] 1 0 (c_X0_setLowestFirst l g fd fa c2 p3 tv x (by first | omega | decide | assumption)) dX7_order_28 k954 k955 k956 k50 k957 ykX0_setLowestFirst rfl rfl rfl rfl rfl rfl rfl rfl (nl rfl) ⟨nl rfl, nl rfl⟩ ⟨(nl rfl), (nl rfl)⟩ rfl (fun v9 w9 hu => ?_)
    obtain ⟨t2_4, rfl, rfl, u_5⟩ := hu
    refine v_is (wn := [(h0, ob 7 [.int (iI kd), .int (iI w), .ref sm, .ref r, .ref wr, .ref fd, .ref wt, .ref rd, .int (iI fl), .int (iI rp), .int (iI x)]), (wr, ob 0 [.ref wa, .int (iI c1), .int (iI p1), .int (iI t2_2)]), (fd, ob 0 [.ref fa, .int (iI c2), .int (iI p3), .int (iI t2_4)])]) (cn := 0) (sn := 0) (sn2 := []) rfl rfl rfl rfl ?_
    refine v_iconst fx dX7_order_31 rfl ?_
    exact v_iret fx [(h0, ob 7 [.int (iI kd), .int (iI w), .ref sm, .ref r, .ref wr, .ref fd, .ref wt, .ref rd, .int (iI fl), .int (iI rp), .int (iI x)]), (wr, ob 0 [.ref wa, .int (iI c1), .int (iI p1), .int (iI t2_2)]), (fd, ob 0 [.ref fa, .int (iI c2), .int (iI p3), .int (iI t2_4)])] [0, 1, 2] hr dX7_order_32 rfl rfl (nl rfl) (nl rfl) ⟨1, x, t2_2, t2_4, rfl, rfl, (by first | omega | rfl | assumption), (by first | omega | rfl | assumption), (by first | omega | rfl | assumption)⟩
  ·
    refine v_iconst fx dX7_order_8 rfl ?_
    exact v_iret fx [(h0, ob 7 [.int (iI kd), .int (iI w), .ref sm, .ref r, .ref wr, .ref fd, .ref wt, .ref rd, .int (iI fl), .int (iI rp), .int (iI lo)]), (wr, ob 0 [.ref wa, .int (iI c1), .int (iI p1), .int (iI tu)]), (fd, ob 0 [.ref fa, .int (iI c2), .int (iI p3), .int (iI tv)])] [0, 1, 2] hr dX7_order_9 rfl rfl (nl rfl) (nl rfl) ⟨0, lo, tu, tv, rfl, rfl, (by first | omega | rfl | assumption), (by first | omega | rfl | assumption), (by first | omega | rfl | assumption)⟩
abbrev po_c_X7_clear_e (g : GG) (h0 : Nat) (kd : Int) (w : Int) (sm : Nat) (r : Nat) (wr : Nat) (fd : Nat) (wt : Nat) (rd : Nat) (fl : Int) (rp : Int) (lo : Int) (sa : Nat) (fw : Nat → Int32) (gs0 : Nat) (gt : Nat) (gm : Nat) (cg : Int) (FG : Nat → Int) (gfs : Nat → Int32) (gfi : Nat → Int32) (wb : Nat) (nw : Nat) (wf : Nat → Int32) (wc : Int) (wp : Int) (wu : Int) (fb : Nat) (nf : Nat) (ff : Nat → Int32) (fc : Int) (fp : Int) (fu : Int) (yr : Nat) (ym : Nat) (yd : Nat) (t1 : Nat) (t2 : Nat) (t3 : Nat) (ytd : Nat) (src : Nat) (rs : Nat) (it : Nat) (m : Nat) (c : Int) (F : Nat → Int) (fs : Nat → Int32) (fi : Nat → Int32) (ms : Nat) (mi : Nat) (mm : Nat) (cm : Int) (G : Nat → Int) (gs : Nat → Int32) (gi : Nat → Int32) : Option Value → va_W → Prop := fun v8 w8 => ∃ w2 : Nat → Int32, ∃ g2 : Nat → Int32, ∃ h2 : Nat → Int32, ∃ j2 : Nat → Int32, ∃ s2 : Nat → Int32, ∃ x2 : Nat → Int32, v8 = none ∧ w8 = [(h0, ob 7 [.int (iI kd), .int (iI w), .ref sm, .ref r, .ref wr, .ref fd, .ref wt, .ref rd, .int (iI fl), .int (iI rp), .int (iI lo)]), (sm, ob 4 [.int (iI w), .ref sa]), (sa, aI g (((w + 31) / 32).toNat) w2), (r, ob 2 [.ref gs0, .ref gt, .int (iI 0)]), (gs0, aI g 27 g2), (wr, ob 0 [.ref wb, .int (iI 0), .int (iI 0), .int (iI wu)]), (wb, aB g nw h2), (fd, ob 0 [.ref fb, .int (iI 0), .int (iI 0), .int (iI fu)]), (fb, aB g nf j2), (rd, ob 3 [.int (iI w), .ref yr, .ref ym, .ref yd, .ref t1, .ref t2, .ref t3, .ref ytd, .ref src]), (yr, ob 2 [.ref rs, .ref it, .int (iI 0)]), (rs, aI g 27 s2), (ym, ob 2 [.ref ms, .ref mi, .int (iI 0)]), (ms, aI g 27 x2)] ∧ (LB 0 (fU FG 1 0) g2 gm) ∧ (bF h2) ∧ (bF j2) ∧ (LB 0 (fU F 1 0) s2 m) ∧ (LB 0 (fU G 1 0) x2 mm) ∧ (∀ j : Nat, j < nw → h2 j = 0) ∧ (∀ x, 0 ≤ x → x < w → sBit w2 x = false)
set_option maxHeartbeats 4000000 in
set_option maxRecDepth 100000 in
theorem c_X7_clear_e (l : Launch) (g : GG) (h0 : Nat) (kd : Int) (w : Int) (sm : Nat) (r : Nat) (wr : Nat) (fd : Nat) (wt : Nat) (rd : Nat) (fl : Int) (rp : Int) (lo : Int) (sa : Nat) (fw : Nat → Int32) (gs0 : Nat) (gt : Nat) (gm : Nat) (cg : Int) (FG : Nat → Int) (gfs : Nat → Int32) (gfi : Nat → Int32) (wb : Nat) (nw : Nat) (wf : Nat → Int32) (wc : Int) (wp : Int) (wu : Int) (fb : Nat) (nf : Nat) (ff : Nat → Int32) (fc : Int) (fp : Int) (fu : Int) (yr : Nat) (ym : Nat) (yd : Nat) (t1 : Nat) (t2 : Nat) (t3 : Nat) (ytd : Nat) (src : Nat) (rs : Nat) (it : Nat) (m : Nat) (c : Int) (F : Nat → Int) (fs : Nat → Int32) (fi : Nat → Int32) (ms : Nat) (mi : Nat) (mm : Nat) (cm : Int) (G : Nat → Int) (gs : Nat → Int32) (gi : Nat → Int32) (hp0 : LB cg FG gfs gm) (hp1 : 0 ≤ wc ∧ wc ≤ 8 * (nw : Int) ∧ 64 ≤ nw ∧ nw ≤ 130000) (hp2 : bF wf) (hp3 : 0 ≤ fc ∧ fc ≤ 8 * (nf : Int) ∧ 64 ≤ nf ∧ nf ≤ 130000) (hp4 : bF ff) (hp5 : LB c F fs m) (hp6 : LB cm G gs mm) (hp7 : 1 ≤ w ∧ w ≤ 3000) (hp8 : zB nw wf wc) : Ct l g yX7_clear (wM yX7_clear cX7_clear 1 none) (rmD 3 0 0) [.ref h0] [(h0, ob 7 [.int (iI kd), .int (iI w), .ref sm, .ref r, .ref wr, .ref fd, .ref wt, .ref rd, .int (iI fl), .int (iI rp), .int (iI lo)]), (sm, ob 4 [.int (iI w), .ref sa]), (sa, aI g (((w + 31) / 32).toNat) fw), (r, ob 2 [.ref gs0, .ref gt, .int (iI cg)]), (gs0, aI g 27 gfs), (wr, ob 0 [.ref wb, .int (iI wc), .int (iI wp), .int (iI wu)]), (wb, aB g nw wf), (fd, ob 0 [.ref fb, .int (iI fc), .int (iI fp), .int (iI fu)]), (fb, aB g nf ff), (rd, ob 3 [.int (iI w), .ref yr, .ref ym, .ref yd, .ref t1, .ref t2, .ref t3, .ref ytd, .ref src]), (yr, ob 2 [.ref rs, .ref it, .int (iI c)]), (rs, aI g 27 fs), (ym, ob 2 [.ref ms, .ref mi, .int (iI cm)]), (ms, aI g 27 gs)] (po_c_X7_clear_e g h0 kd w sm r wr fd wt rd fl rp lo sa fw gs0 gt gm cg FG gfs gfi wb nw wf wc wp wu fb nf ff fc fp fu yr ym yd t1 t2 t3 ytd src rs it m c F fs fi ms mi mm cm G gs gi) := by
  refine Ct_of (by decide +kernel) (Nat.le_of_ble_eq_true rfl) ?_
  intro p9 e9 s9 m9 ag9 bl9 mt9 c9 A9 fx hr hnm
  refine v_aload_n fx 0 dX7_clear_0 rfl rfl ?_
  refine v_get fx 0 2 inX7 k278 dX7_clear_1 rfl rfl (by decide) rfl rfl rfl ?_
  refine v_callV (As := []) (rest := []) fx [1, 2] [0, 3, 4, 5, 6, 7, 8, 9, 10, 11, 12, 13] [(sm, ob 4 [.int (iI w), .ref sa]), (sa, aI g (((w + 31) / 32).toNat) fw)] [(h0, ob 7 [.int (iI kd), .int (iI w), .ref sm, .ref r, .ref wr, .ref fd, .ref wt, .ref rd, .int (iI fl), .int (iI rp), .int (iI lo)]), (r, ob 2 [.ref gs0, .ref gt, .int (iI cg)]), (gs0, aI g 27 gfs), (wr, ob 0 [.ref wb, .int (iI wc), .int (iI wp), .int (iI wu)]), (wb, aB g nw wf), (fd, ob 0 [.ref fb, .int (iI fc), .int (iI fp), .int (iI fu)]), (fb, aB g nf ff), (rd, ob 3 [.int (iI w), .ref yr, .ref ym, .ref yd, .ref t1, .ref t2, .ref t3, .ref ytd, .ref src]), (yr, ob 2 [.ref rs, .ref it, .int (iI c)]), (rs, aI g 27 fs), (ym, ob 2 [.ref ms, .ref mi, .int (iI cm)]), (ms, aI g 27 gs)] 0 0 (c_X4_whiten_e l g sm sa (((w + 31) / 32).toNat) fw (iI w) (by first | omega | decide | assumption)) dX7_clear_4 k347 k348 k349 k48 k350 ykX4_whiten rfl rfl rfl rfl rfl rfl rfl rfl (nl rfl) ⟨nl rfl, nl rfl⟩ ⟨(nl rfl), (nl rfl)⟩ rfl (fun v9 w9 hu => ?_)
  obtain ⟨f2_1, rfl, rfl, u_2⟩ := hu
  refine v_is (wn := [(h0, ob 7 [.int (iI kd), .int (iI w), .ref sm, .ref r, .ref wr, .ref fd, .ref wt, .ref rd, .int (iI fl), .int (iI rp), .int (iI lo)]), (r, ob 2 [.ref gs0, .ref gt, .int (iI cg)]), (gs0, aI g 27 gfs), (wr, ob 0 [.ref wb, .int (iI wc), .int (iI wp), .int (iI wu)]), (wb, aB g nw wf), (fd, ob 0 [.ref fb, .int (iI fc), .int (iI fp), .int (iI fu)]), (fb, aB g nf ff), (rd, ob 3 [.int (iI w), .ref yr, .ref ym, .ref yd, .ref t1, .ref t2, .ref t3, .ref ytd, .ref src]), (yr, ob 2 [.ref rs, .ref it, .int (iI c)]), (rs, aI g 27 fs), (ym, ob 2 [.ref ms, .ref mi, .int (iI cm)]), (ms, aI g 27 gs), (sm, ob 4 [.int (iI w), .ref sa]), (sa, aI g (((w + 31) / 32).toNat) f2_1)]) (cn := 0) (sn := 0) (sn2 := []) rfl rfl rfl rfl ?_
  have hwz := u_2
  refine v_aload_n fx 0 dX7_clear_7 rfl rfl ?_
  refine v_get fx 0 3 inX7 k279 dX7_clear_8 rfl rfl (by decide) rfl rfl rfl ?_
  refine v_callV (As := []) (rest := []) fx [1, 2] [0, 3, 4, 5, 6, 7, 8, 9, 10, 11, 12, 13] [(r, ob 2 [.ref gs0, .ref gt, .int (iI cg)]), (gs0, aI g 27 gfs)] [(h0, ob 7 [.int (iI kd), .int (iI w), .ref sm, .ref r, .ref wr, .ref fd, .ref wt, .ref rd, .int (iI fl), .int (iI rp), .int (iI lo)]), (wr, ob 0 [.ref wb, .int (iI wc), .int (iI wp), .int (iI wu)]), (wb, aB g nw wf), (fd, ob 0 [.ref fb, .int (iI fc), .int (iI fp), .int (iI fu)]), (fb, aB g nf ff), (rd, ob 3 [.int (iI w), .ref yr, .ref ym, .ref yd, .ref t1, .ref t2, .ref t3, .ref ytd, .ref src]), (yr, ob 2 [.ref rs, .ref it, .int (iI c)]), (rs, aI g 27 fs), (ym, ob 2 [.ref ms, .ref mi, .int (iI cm)]), (ms, aI g 27 gs), (sm, ob 4 [.int (iI w), .ref sa]), (sa, aI g (((w + 31) / 32).toNat) f2_1)] 0 0 (c_X2_removeAll l g r gs0 gt gm cg FG gfs gfi (by exact hp0)) dX7_clear_11 k962 k803 k804 k49 k805 ykX2_removeAll rfl rfl rfl rfl rfl rfl rfl rfl (nl rfl) ⟨nl rfl, nl rfl⟩ ⟨(nl rfl), (nl rfl)⟩ rfl (fun v9 w9 hu => ?_)
  obtain ⟨ga, rfl, rfl, u_3⟩ := hu
  refine v_is (wn := [(h0, ob 7 [.int (iI kd), .int (iI w), .ref sm, .ref r, .ref wr, .ref fd, .ref wt, .ref rd, .int (iI fl), .int (iI rp), .int (iI lo)]), (wr, ob 0 [.ref wb, .int (iI wc), .int (iI wp), .int (iI wu)]), (wb, aB g nw wf), (fd, ob 0 [.ref fb, .int (iI fc), .int (iI fp), .int (iI fu)]), (fb, aB g nf ff), (rd, ob 3 [.int (iI w), .ref yr, .ref ym, .ref yd, .ref t1, .ref t2, .ref t3, .ref ytd, .ref src]), (yr, ob 2 [.ref rs, .ref it, .int (iI c)]), (rs, aI g 27 fs), (ym, ob 2 [.ref ms, .ref mi, .int (iI cm)]), (ms, aI g 27 gs), (sm, ob 4 [.int (iI w), .ref sa]), (sa, aI g (((w + 31) / 32).toNat) f2_1), (r, ob 2 [.ref gs0, .ref gt, .int (iI 0)]), (gs0, aI g 27 ga)]) (cn := 0) (sn := 0) (sn2 := []) rfl rfl rfl rfl ?_
  refine v_aload_n fx 0 dX7_clear_14 rfl rfl ?_
  refine v_get fx 0 4 inX7 k280 dX7_clear_15 rfl rfl (by decide) rfl rfl rfl ?_
  refine v_callV (As := []) (rest := []) fx [1, 2] [0, 3, 4, 5, 6, 7, 8, 9, 10, 11, 12, 13] [(wr, ob 0 [.ref wb, .int (iI wc), .int (iI wp), .int (iI wu)]), (wb, aB g nw wf)] [(h0, ob 7 [.int (iI kd), .int (iI w), .ref sm, .ref r, .ref wr, .ref fd, .ref wt, .ref rd, .int (iI fl), .int (iI rp), .int (iI lo)]), (fd, ob 0 [.ref fb, .int (iI fc), .int (iI fp), .int (iI fu)]), (fb, aB g nf ff), (rd, ob 3 [.int (iI w), .ref yr, .ref ym, .ref yd, .ref t1, .ref t2, .ref t3, .ref ytd, .ref src]), (yr, ob 2 [.ref rs, .ref it, .int (iI c)]), (rs, aI g 27 fs), (ym, ob 2 [.ref ms, .ref mi, .int (iI cm)]), (ms, aI g 27 gs), (sm, ob 4 [.int (iI w), .ref sa]), (sa, aI g (((w + 31) / 32).toNat) f2_1), (r, ob 2 [.ref gs0, .ref gt, .int (iI 0)]), (gs0, aI g 27 ga)] 0 0 (c_X0_removeAll_z l g wr wb nw wf wc wp wu (by first | omega | decide | assumption) (by exact hp2) (by assumption)) dX7_clear_18 k358 k359 k360 k50 k361 ykX0_removeAll rfl rfl rfl rfl rfl rfl rfl rfl (nl rfl) ⟨nl rfl, nl rfl⟩ ⟨(nl rfl), (nl rfl)⟩ rfl (fun v9 w9 hu => ?_)
  obtain ⟨ha, rfl, rfl, u_4, u_5⟩ := hu
  refine v_is (wn := [(h0, ob 7 [.int (iI kd), .int (iI w), .ref sm, .ref r, .ref wr, .ref fd, .ref wt, .ref rd, .int (iI fl), .int (iI rp), .int (iI lo)]), (fd, ob 0 [.ref fb, .int (iI fc), .int (iI fp), .int (iI fu)]), (fb, aB g nf ff), (rd, ob 3 [.int (iI w), .ref yr, .ref ym, .ref yd, .ref t1, .ref t2, .ref t3, .ref ytd, .ref src]), (yr, ob 2 [.ref rs, .ref it, .int (iI c)]), (rs, aI g 27 fs), (ym, ob 2 [.ref ms, .ref mi, .int (iI cm)]), (ms, aI g 27 gs), (sm, ob 4 [.int (iI w), .ref sa]), (sa, aI g (((w + 31) / 32).toNat) f2_1), (r, ob 2 [.ref gs0, .ref gt, .int (iI 0)]), (gs0, aI g 27 ga), (wr, ob 0 [.ref wb, .int (iI 0), .int (iI 0), .int (iI wu)]), (wb, aB g nw ha)]) (cn := 0) (sn := 0) (sn2 := []) rfl rfl rfl rfl ?_
  have hwr := u_5
  refine v_aload_n fx 0 dX7_clear_21 rfl rfl ?_
  refine v_get fx 0 5 inX7 k281 dX7_clear_22 rfl rfl (by decide) rfl rfl rfl ?_
  refine v_callV (As := []) (rest := []) fx [1, 2] [0, 3, 4, 5, 6, 7, 8, 9, 10, 11, 12, 13] [(fd, ob 0 [.ref fb, .int (iI fc), .int (iI fp), .int (iI fu)]), (fb, aB g nf ff)] [(h0, ob 7 [.int (iI kd), .int (iI w), .ref sm, .ref r, .ref wr, .ref fd, .ref wt, .ref rd, .int (iI fl), .int (iI rp), .int (iI lo)]), (rd, ob 3 [.int (iI w), .ref yr, .ref ym, .ref yd, .ref t1, .ref t2, .ref t3, .ref ytd, .ref src]), (yr, ob 2 [.ref rs, .ref it, .int (iI c)]), (rs, aI g 27 fs), (ym, ob 2 [.ref ms, .ref mi, .int (iI cm)]), (ms, aI g 27 gs), (sm, ob 4 [.int (iI w), .ref sa]), (sa, aI g (((w + 31) / 32).toNat) f2_1), (r, ob 2 [.ref gs0, .ref gt, .int (iI 0)]), (gs0, aI g 27 ga), (wr, ob 0 [.ref wb, .int (iI 0), .int (iI 0), .int (iI wu)]), (wb, aB g nw ha)] 0 0 (c_X0_removeAll l g fd fb nf ff fc fp fu (by first | omega | decide | assumption) (by exact hp4)) dX7_clear_25 k358 k359 k360 k50 k361 ykX0_removeAll rfl rfl rfl rfl rfl rfl rfl rfl (nl rfl) ⟨nl rfl, nl rfl⟩ ⟨(nl rfl), (nl rfl)⟩ rfl (fun v9 w9 hu => ?_)
  obtain ⟨ja, rfl, rfl, u_6⟩ := hu
  refine v_is (wn := [(h0, ob 7 [.int (iI kd), .int (iI w), .ref sm, .ref r, .ref wr, .ref fd, .ref wt, .ref rd, .int (iI fl), .int (iI rp), .int (iI lo)]), (rd, ob 3 [.int (iI w), .ref yr, .ref ym, .ref yd, .ref t1, .ref t2, .ref t3, .ref ytd, .ref src]), (yr, ob 2 [.ref rs, .ref it, .int (iI c)]), (rs, aI g 27 fs), (ym, ob 2 [.ref ms, .ref mi, .int (iI cm)]), (ms, aI g 27 gs), (sm, ob 4 [.int (iI w), .ref sa]), (sa, aI g (((w + 31) / 32).toNat) f2_1), (r, ob 2 [.ref gs0, .ref gt, .int (iI 0)]), (gs0, aI g 27 ga), (wr, ob 0 [.ref wb, .int (iI 0), .int (iI 0), .int (iI wu)]), (wb, aB g nw ha), (fd, ob 0 [.ref fb, .int (iI 0), .int (iI 0), .int (iI fu)]), (fb, aB g nf ja)]) (cn := 0) (sn := 0) (sn2 := []) rfl rfl rfl rfl ?_
  refine v_aload_n fx 0 dX7_clear_28 rfl rfl ?_
  refine v_get fx 0 7 inX7 k283 dX7_clear_29 rfl rfl (by decide) rfl rfl rfl ?_
  refine v_callV (As := []) (rest := []) fx [1, 2, 3, 4, 5] [0, 6, 7, 8, 9, 10, 11, 12, 13] [(rd, ob 3 [.int (iI w), .ref yr, .ref ym, .ref yd, .ref t1, .ref t2, .ref t3, .ref ytd, .ref src]), (yr, ob 2 [.ref rs, .ref it, .int (iI c)]), (rs, aI g 27 fs), (ym, ob 2 [.ref ms, .ref mi, .int (iI cm)]), (ms, aI g 27 gs)] [(h0, ob 7 [.int (iI kd), .int (iI w), .ref sm, .ref r, .ref wr, .ref fd, .ref wt, .ref rd, .int (iI fl), .int (iI rp), .int (iI lo)]), (sm, ob 4 [.int (iI w), .ref sa]), (sa, aI g (((w + 31) / 32).toNat) f2_1), (r, ob 2 [.ref gs0, .ref gt, .int (iI 0)]), (gs0, aI g 27 ga), (wr, ob 0 [.ref wb, .int (iI 0), .int (iI 0), .int (iI wu)]), (wb, aB g nw ha), (fd, ob 0 [.ref fb, .int (iI 0), .int (iI 0), .int (iI fu)]), (fb, aB g nf ja)] 0 0 (c_X3_forget l g rd w yr ym yd t1 t2 t3 ytd src rs it m c F fs fi ms mi mm cm G gs gi (by exact hp5) (by exact hp6)) dX7_clear_32 k912 k799 k800 k53 k801 ykX3_forget rfl rfl rfl rfl rfl rfl rfl rfl (nl rfl) ⟨nl rfl, nl rfl⟩ ⟨(nl rfl), (nl rfl)⟩ rfl (fun v9 w9 hu => ?_)
  obtain ⟨sa2, xa2, rfl, rfl, u_7, u_8⟩ := hu
  refine v_is (wn := [(h0, ob 7 [.int (iI kd), .int (iI w), .ref sm, .ref r, .ref wr, .ref fd, .ref wt, .ref rd, .int (iI fl), .int (iI rp), .int (iI lo)]), (sm, ob 4 [.int (iI w), .ref sa]), (sa, aI g (((w + 31) / 32).toNat) f2_1), (r, ob 2 [.ref gs0, .ref gt, .int (iI 0)]), (gs0, aI g 27 ga), (wr, ob 0 [.ref wb, .int (iI 0), .int (iI 0), .int (iI wu)]), (wb, aB g nw ha), (fd, ob 0 [.ref fb, .int (iI 0), .int (iI 0), .int (iI fu)]), (fb, aB g nf ja), (rd, ob 3 [.int (iI w), .ref yr, .ref ym, .ref yd, .ref t1, .ref t2, .ref t3, .ref ytd, .ref src]), (yr, ob 2 [.ref rs, .ref it, .int (iI 0)]), (rs, aI g 27 sa2), (ym, ob 2 [.ref ms, .ref mi, .int (iI 0)]), (ms, aI g 27 xa2)]) (cn := 0) (sn := 0) (sn2 := []) rfl rfl rfl rfl ?_
  exact v_vret fx [(h0, ob 7 [.int (iI kd), .int (iI w), .ref sm, .ref r, .ref wr, .ref fd, .ref wt, .ref rd, .int (iI fl), .int (iI rp), .int (iI lo)]), (sm, ob 4 [.int (iI w), .ref sa]), (sa, aI g (((w + 31) / 32).toNat) f2_1), (r, ob 2 [.ref gs0, .ref gt, .int (iI 0)]), (gs0, aI g 27 ga), (wr, ob 0 [.ref wb, .int (iI 0), .int (iI 0), .int (iI wu)]), (wb, aB g nw ha), (fd, ob 0 [.ref fb, .int (iI 0), .int (iI 0), .int (iI fu)]), (fb, aB g nf ja), (rd, ob 3 [.int (iI w), .ref yr, .ref ym, .ref yd, .ref t1, .ref t2, .ref t3, .ref ytd, .ref src]), (yr, ob 2 [.ref rs, .ref it, .int (iI 0)]), (rs, aI g 27 sa2), (ym, ob 2 [.ref ms, .ref mi, .int (iI 0)]), (ms, aI g 27 xa2)] [0, 1, 2, 3, 4, 5, 6, 7, 8, 9, 10, 11, 12, 13] hr dX7_clear_35 rfl rfl (nl rfl) (nl rfl) ⟨f2_1, ga, ha, ja, sa2, xa2, rfl, rfl, (by assumption), (by assumption), (by assumption), (by assumption), (by assumption), (by exact hwr), (by exact fun x h1 h2 => sBit_0 hwz (by omega))⟩
abbrev po_c_X0_byteOf_e (g : GG) (h0 : Nat) (ba : Nat) (n : Nat) (f : Nat → Int32) (c : Int) (pl : Int) (tu : Int) (x : Int) : Option Value → va_W → Prop := fun v8 w8 => ∃ r : Int32, v8 = some (.int r) ∧ w8 = [(h0, ob 0 [.ref ba, .int (iI c), .int (iI pl), .int (iI tu)]), (ba, aB g n f)] ∧ ((0 ≤ x ∧ x < (c + 7) / 8 ∧ r = f x.toNat &&& iI 255) ∨ ((x < 0 ∨ (c + 7) / 8 ≤ x) ∧ r = iI (-1)))
set_option maxHeartbeats 4000000 in
set_option maxRecDepth 100000 in
theorem c_X0_byteOf_e (l : Launch) (g : GG) (h0 : Nat) (ba : Nat) (n : Nat) (f : Nat → Int32) (c : Int) (pl : Int) (tu : Int) (x : Int) (hp0 : 0 ≤ c ∧ c ≤ 8 * (n : Int) ∧ 64 ≤ n ∧ n ≤ 130000) (hp1 : bF f) (hp2 : -2147483648 ≤ x ∧ x < 2147483648) : Ct l g yX0_byteOf (wM yX0_byteOf cX0_byteOf 2 (some .int)) (rmD 1 0 0) [.ref h0, .int (iI x)] [(h0, ob 0 [.ref ba, .int (iI c), .int (iI pl), .int (iI tu)]), (ba, aB g n f)] (po_c_X0_byteOf_e g h0 ba n f c pl tu x) := by
  refine Ct_of (by decide +kernel) (Nat.le_of_ble_eq_true rfl) ?_
  intro p9 e9 s9 m9 ag9 bl9 mt9 c9 A9 fx hr hnm
  refine v_iload_n fx 1 dX0_byteOf_0 rfl rfl ?_
  refine v_if_lt fx 25 dX0_byteOf_1 (by decide) rfl (by omega) (fun h_1 => ?_) (fun h_1 => ?_)
  ·
    refine v_iconst fx dX0_byteOf_25 rfl ?_
    exact v_iret fx [(h0, ob 0 [.ref ba, .int (iI c), .int (iI pl), .int (iI tu)]), (ba, aB g n f)] [0, 1] hr dX0_byteOf_26 rfl rfl (nl rfl) (nl rfl) ⟨(iI (-1)), rfl, rfl, (by first | exact Or.inl ⟨by omega, by omega, by symm; assumption⟩ | exact Or.inr ⟨by omega, rfl⟩)⟩
  ·
    refine v_iload_n fx 1 dX0_byteOf_4 rfl rfl ?_
    refine v_aload_n fx 0 dX0_byteOf_5 rfl rfl ?_
    refine v_callV (As := []) (rest := [.int (iI x)]) fx [0] [1] [(h0, ob 0 [.ref ba, .int (iI c), .int (iI pl), .int (iI tu)])] [(ba, aB g n f)] 0 0 (c_X0_byteCount l g h0 ba c pl tu (by first | omega | decide | assumption)) dX0_byteOf_6 k362 k363 k364 k50 k365 ykX0_byteCount rfl rfl rfl rfl rfl rfl rfl rfl (nl rfl) ⟨nl rfl, nl rfl⟩ ⟨(nl rfl), (nl rfl)⟩ rfl (fun v9 w9 hu => ?_)
    obtain ⟨rfl, rfl⟩ := hu
    refine v_is (wn := [(ba, aB g n f), (h0, ob 0 [.ref ba, .int (iI c), .int (iI pl), .int (iI tu)])]) (cn := 0) (sn := 0) (sn2 := [.int (iI ((c + 7) / 8)), .int (iI x)]) rfl rfl rfl rfl ?_
    refine v_icmp_ge fx 25 dX0_byteOf_9 (by decide) rfl (by omega) (by omega) (fun h_2 => ?_) (fun h_2 => ?_)
    ·
      refine v_iconst fx dX0_byteOf_25 rfl ?_
      exact v_iret fx [(h0, ob 0 [.ref ba, .int (iI c), .int (iI pl), .int (iI tu)]), (ba, aB g n f)] [1, 0] hr dX0_byteOf_26 rfl rfl (nl rfl) (nl rfl) ⟨(iI (-1)), rfl, rfl, (by first | exact Or.inl ⟨by omega, by omega, by symm; assumption⟩ | exact Or.inr ⟨by omega, rfl⟩)⟩
    ·
      refine v_aload_n fx 0 dX0_byteOf_12 rfl rfl ?_
      refine v_get fx 1 0 inX0 k121 dX0_byteOf_13 rfl rfl (by decide) rfl rfl rfl ?_
      refine v_iload_n fx 1 dX0_byteOf_16 rfl rfl ?_
      refine v_bald fx 0 dX0_byteOf_17 rfl (by omega) (by omega) rfl ?_
      refine v_sipush fx dX0_byteOf_18 (by decide +kernel) rfl ?_
      obtain ⟨t_3, et_3⟩ : ∃ x9 : Int32, (f (x).toNat) &&& (iI 255) = x9 := ⟨_, rfl⟩
      refine v_iand fx t_3 dX0_byteOf_21 et_3 rfl ?_
      refine v_goto fx 26 dX0_byteOf_22 (by decide) ?_
      exact v_iret fx [(h0, ob 0 [.ref ba, .int (iI c), .int (iI pl), .int (iI tu)]), (ba, aB g n f)] [1, 0] hr dX0_byteOf_26 rfl rfl (nl rfl) (nl rfl) ⟨t_3, rfl, rfl, (by first | exact Or.inl ⟨by omega, by omega, by symm; assumption⟩ | exact Or.inr ⟨by omega, rfl⟩)⟩
abbrev po_c_X7_byteAt_e (g : GG) (h0 : Nat) (kd : Int) (w : Int) (sm : Nat) (r : Nat) (wr : Nat) (fd : Nat) (wt : Nat) (rd : Nat) (fl : Int) (rp : Int) (lo : Int) (ba : Nat) (n : Nat) (f : Nat → Int32) (cb : Int) (pl : Int) (tu : Int) (x : Int) : Option Value → va_W → Prop := fun v8 w8 => ∃ q : Int32, v8 = some (.int q) ∧ w8 = [(h0, ob 7 [.int (iI kd), .int (iI w), .ref sm, .ref r, .ref wr, .ref fd, .ref wt, .ref rd, .int (iI fl), .int (iI rp), .int (iI lo)]), (wr, ob 0 [.ref ba, .int (iI cb), .int (iI pl), .int (iI tu)]), (ba, aB g n f)] ∧ ((0 ≤ x ∧ x < (cb + 7) / 8 ∧ q = f x.toNat &&& iI 255) ∨ ((x < 0 ∨ (cb + 7) / 8 ≤ x) ∧ q = iI (-1)))
set_option maxHeartbeats 4000000 in
set_option maxRecDepth 100000 in
theorem c_X7_byteAt_e (l : Launch) (g : GG) (h0 : Nat) (kd : Int) (w : Int) (sm : Nat) (r : Nat) (wr : Nat) (fd : Nat) (wt : Nat) (rd : Nat) (fl : Int) (rp : Int) (lo : Int) (ba : Nat) (n : Nat) (f : Nat → Int32) (cb : Int) (pl : Int) (tu : Int) (x : Int) (hp0 : 0 ≤ cb ∧ cb ≤ 8 * (n : Int) ∧ 64 ≤ n ∧ n ≤ 130000) (hp1 : bF f) (hp2 : -2147483648 ≤ x ∧ x < 2147483648) : Ct l g yX7_byteAt (wM yX7_byteAt cX7_byteAt 2 (some .int)) (rmD 2 0 0) [.ref h0, .int (iI x)] [(h0, ob 7 [.int (iI kd), .int (iI w), .ref sm, .ref r, .ref wr, .ref fd, .ref wt, .ref rd, .int (iI fl), .int (iI rp), .int (iI lo)]), (wr, ob 0 [.ref ba, .int (iI cb), .int (iI pl), .int (iI tu)]), (ba, aB g n f)] (po_c_X7_byteAt_e g h0 kd w sm r wr fd wt rd fl rp lo ba n f cb pl tu x) := by
  refine Ct_of (by decide +kernel) (Nat.le_of_ble_eq_true rfl) ?_
  intro p9 e9 s9 m9 ag9 bl9 mt9 c9 A9 fx hr hnm
  refine v_aload_n fx 0 dX7_byteAt_0 rfl rfl ?_
  refine v_get fx 0 4 inX7 k280 dX7_byteAt_1 rfl rfl (by decide) rfl rfl rfl ?_
  refine v_iload_n fx 1 dX7_byteAt_4 rfl rfl ?_
  refine v_callV (As := [.int (iI x)]) (rest := []) fx [1, 2] [0] [(wr, ob 0 [.ref ba, .int (iI cb), .int (iI pl), .int (iI tu)]), (ba, aB g n f)] [(h0, ob 7 [.int (iI kd), .int (iI w), .ref sm, .ref r, .ref wr, .ref fd, .ref wt, .ref rd, .int (iI fl), .int (iI rp), .int (iI lo)])] 1 0 (c_X0_byteOf_e l g wr ba n f cb pl tu x (by first | omega | decide | assumption) (by exact hp1) (by first | omega | decide | assumption)) dX7_byteAt_5 k778 k779 k780 k50 k781 ykX0_byteOf rfl rfl rfl rfl rfl rfl rfl rfl (nl rfl) ⟨nl rfl, nl rfl⟩ ⟨(nl rfl), (nl rfl)⟩ rfl (fun v9 w9 hu => ?_)
  obtain ⟨r_1, rfl, rfl, u_2⟩ := hu
  refine v_is (wn := [(h0, ob 7 [.int (iI kd), .int (iI w), .ref sm, .ref r, .ref wr, .ref fd, .ref wt, .ref rd, .int (iI fl), .int (iI rp), .int (iI lo)]), (wr, ob 0 [.ref ba, .int (iI cb), .int (iI pl), .int (iI tu)]), (ba, aB g n f)]) (cn := 0) (sn := 0) (sn2 := [.int r_1]) rfl rfl rfl rfl ?_
  exact v_iret fx [(h0, ob 7 [.int (iI kd), .int (iI w), .ref sm, .ref r, .ref wr, .ref fd, .ref wt, .ref rd, .int (iI fl), .int (iI rp), .int (iI lo)]), (wr, ob 0 [.ref ba, .int (iI cb), .int (iI pl), .int (iI tu)]), (ba, aB g n f)] [0, 1, 2] hr dX7_byteAt_8 rfl rfl (nl rfl) (nl rfl) ⟨r_1, rfl, rfl, (by assumption)⟩
abbrev po_c_X8_put_e (g : GG) (h0 : Nat) (xa : Nat) (xb : Nat) (xc : Nat) (xd : Nat) (xe : Nat) (xf : Nat) (xg : Nat) (xm : Nat) (xv : Nat) (xw : Nat) (xq : Nat) (xr : Nat) (xh : Nat) (xo : Nat) (xp : Nat) (vc : Int) (vk : Int) (vw : Int) (vg : Int) (vb : Int) (vi : Int) (ve : Int) (vf : Int) (vu : Int) (vl : Int) (vr : Int) (va : Int) (vt : Int) (vm : Int) (vd : Int) (vx : Int) (f : Nat → Int32) (x : Int) (on : Int) : Option Value → va_W → Prop := fun v8 w8 => ∃ r : Int, ∃ f2 : Nat → Int32, v8 = some (.int (iI r)) ∧ w8 = [(h0, ob 8 [.ref xa, .ref xb, .ref xc, .ref xd, .ref xe, .ref xf, .ref xg, .int (iI 0), .int (iI vk), .int (iI vw), .ref xm, .ref xv, .int (iI vg), .ref xw, .int (iI vb), .int (iI vi), .ref xq, .int (iI ve), .int (iI vf), .int (iI vu), .int (iI vl), .ref xr, .ref xh, .ref xo, .ref xp, .int (iI vr), .int (iI va), .int (iI vt), .int (iI vm), .int (iI vd), .int (iI vx)]), (xm, aZ g 3000 f2)] ∧ ((r = 1 ∧ 0 ≤ x ∧ x < vw) ∨ (r = 0 ∧ (x < 0 ∨ vw ≤ x))) ∧ (∀ y, 0 ≤ y → y < vw → f2 y.toNat = if y = x then iI on else f y.toNat) ∧ (bZ f2)
set_option maxHeartbeats 4000000 in
set_option maxRecDepth 100000 in
theorem c_X8_put_e (l : Launch) (g : GG) (h0 : Nat) (xa : Nat) (xb : Nat) (xc : Nat) (xd : Nat) (xe : Nat) (xf : Nat) (xg : Nat) (xm : Nat) (xv : Nat) (xw : Nat) (xq : Nat) (xr : Nat) (xh : Nat) (xo : Nat) (xp : Nat) (vc : Int) (vk : Int) (vw : Int) (vg : Int) (vb : Int) (vi : Int) (ve : Int) (vf : Int) (vu : Int) (vl : Int) (vr : Int) (va : Int) (vt : Int) (vm : Int) (vd : Int) (vx : Int) (f : Nat → Int32) (x : Int) (on : Int) (hp0 : -2147483648 ≤ x ∧ x < 2147483648) (hp1 : 1 ≤ vw ∧ vw ≤ 3000) (hp2 : 0 ≤ on ∧ on ≤ 1) (hp3 : bZ f) : Ct l g yX8_put (wM yX8_put cX8_put 3 (some .boolean)) (rmD 0 0 0) [.ref h0, .int (iI x), .int (iI on)] [(h0, ob 8 [.ref xa, .ref xb, .ref xc, .ref xd, .ref xe, .ref xf, .ref xg, .int (iI vc), .int (iI vk), .int (iI vw), .ref xm, .ref xv, .int (iI vg), .ref xw, .int (iI vb), .int (iI vi), .ref xq, .int (iI ve), .int (iI vf), .int (iI vu), .int (iI vl), .ref xr, .ref xh, .ref xo, .ref xp, .int (iI vr), .int (iI va), .int (iI vt), .int (iI vm), .int (iI vd), .int (iI vx)]), (xm, aZ g 3000 f)] (po_c_X8_put_e g h0 xa xb xc xd xe xf xg xm xv xw xq xr xh xo xp vc vk vw vg vb vi ve vf vu vl vr va vt vm vd vx f x on) := by
  refine Ct_of (by decide +kernel) (Nat.le_of_ble_eq_true rfl) ?_
  intro p9 e9 s9 m9 ag9 bl9 mt9 c9 A9 fx hr hnm
  refine v_aload_n fx 0 dX8_put_0 rfl rfl ?_
  refine v_iconst fx dX8_put_1 rfl ?_
  refine v_put fx 0 7 [(h0, ob 8 [.ref xa, .ref xb, .ref xc, .ref xd, .ref xe, .ref xf, .ref xg, .int (iI 0), .int (iI vk), .int (iI vw), .ref xm, .ref xv, .int (iI vg), .ref xw, .int (iI vb), .int (iI vi), .ref xq, .int (iI ve), .int (iI vf), .int (iI vu), .int (iI vl), .ref xr, .ref xh, .ref xo, .ref xp, .int (iI vr), .int (iI va), .int (iI vt), .int (iI vm), .int (iI vd), .int (iI vx)]), (xm, aZ g 3000 f)] inX8 tyX8_ok nmX8 k1003 dX8_put_2 rfl rfl (by decide) rfl rfl rfl rfl (nl rfl) rfl rfl ?_
  refine v_iload_n fx 1 dX8_put_5 rfl rfl ?_
  refine v_if_lt fx 17 dX8_put_6 (by decide) rfl (by omega) (fun h_1 => ?_) (fun h_1 => ?_)
  ·
    refine v_iconst fx dX8_put_17 rfl ?_
    exact v_zret fx [(h0, ob 8 [.ref xa, .ref xb, .ref xc, .ref xd, .ref xe, .ref xf, .ref xg, .int (iI 0), .int (iI vk), .int (iI vw), .ref xm, .ref xv, .int (iI vg), .ref xw, .int (iI vb), .int (iI vi), .ref xq, .int (iI ve), .int (iI vf), .int (iI vu), .int (iI vl), .ref xr, .ref xh, .ref xo, .ref xp, .int (iI vr), .int (iI va), .int (iI vt), .int (iI vm), .int (iI vd), .int (iI vx)]), (xm, aZ g 3000 f)] [0, 1] hr dX8_put_18 (by first | rfl | exact nar_z _ (by omega)) rfl rfl (nl rfl) (nl rfl) ⟨0, f, rfl, rfl, (by first | omega | rfl | assumption), (by exact putR_out (by omega)), (by exact hp3)⟩
  ·
    refine v_iload_n fx 1 dX8_put_9 rfl rfl ?_
    refine v_aload_n fx 0 dX8_put_10 rfl rfl ?_
    refine v_get fx 0 9 inX8 k1005 dX8_put_11 rfl rfl (by decide) rfl rfl rfl ?_
    refine v_icmp_lt fx 19 dX8_put_14 (by decide) rfl (by omega) (by omega) (fun h_2 => ?_) (fun h_2 => ?_)
    ·
      refine v_aload_n fx 0 dX8_put_19 rfl rfl ?_
      refine v_get fx 0 10 inX8 k1006 dX8_put_20 rfl rfl (by decide) rfl rfl rfl ?_
      refine v_iload_n fx 1 dX8_put_23 rfl rfl ?_
      refine v_iload_n fx 2 dX8_put_24 rfl rfl ?_
      obtain ⟨f_3, ef_3⟩ : ∃ f9 : Nat → Int32, upd f (x).toNat (vp_nar .boolean (iI on)) = f9 := ⟨_, rfl⟩
      refine v_zast fx 1 f_3 [(h0, ob 8 [.ref xa, .ref xb, .ref xc, .ref xd, .ref xe, .ref xf, .ref xg, .int (iI 0), .int (iI vk), .int (iI vw), .ref xm, .ref xv, .int (iI vg), .ref xw, .int (iI vb), .int (iI vi), .ref xq, .int (iI ve), .int (iI vf), .int (iI vu), .int (iI vl), .ref xr, .ref xh, .ref xo, .ref xp, .int (iI vr), .int (iI va), .int (iI vt), .int (iI vm), .int (iI vd), .int (iI vx)]), (xm, aZ g 3000 f_3)] dX8_put_25 rfl (by omega) (by omega) ef_3 rfl rfl ?_
      refine v_iconst fx dX8_put_26 rfl ?_
      exact v_zret fx [(h0, ob 8 [.ref xa, .ref xb, .ref xc, .ref xd, .ref xe, .ref xf, .ref xg, .int (iI 0), .int (iI vk), .int (iI vw), .ref xm, .ref xv, .int (iI vg), .ref xw, .int (iI vb), .int (iI vi), .ref xq, .int (iI ve), .int (iI vf), .int (iI vu), .int (iI vl), .ref xr, .ref xh, .ref xo, .ref xp, .int (iI vr), .int (iI va), .int (iI vt), .int (iI vm), .int (iI vd), .int (iI vx)]), (xm, aZ g 3000 f_3)] [0, 1] hr dX8_put_27 (by first | rfl | exact nar_z _ (by omega)) rfl rfl (nl rfl) (nl rfl) ⟨1, f_3, rfl, rfl, (by first | omega | rfl | assumption), (by exact putR_in (by assumption) hp2 (by omega)), (by exact bZ_updE (by assumption) hp3)⟩
    ·
      refine v_iconst fx dX8_put_17 rfl ?_
      exact v_zret fx [(h0, ob 8 [.ref xa, .ref xb, .ref xc, .ref xd, .ref xe, .ref xf, .ref xg, .int (iI 0), .int (iI vk), .int (iI vw), .ref xm, .ref xv, .int (iI vg), .ref xw, .int (iI vb), .int (iI vi), .ref xq, .int (iI ve), .int (iI vf), .int (iI vu), .int (iI vl), .ref xr, .ref xh, .ref xo, .ref xp, .int (iI vr), .int (iI va), .int (iI vt), .int (iI vm), .int (iI vd), .int (iI vx)]), (xm, aZ g 3000 f)] [0, 1] hr dX8_put_18 (by first | rfl | exact nar_z _ (by omega)) rfl rfl (nl rfl) (nl rfl) ⟨0, f, rfl, rfl, (by first | omega | rfl | assumption), (by exact putR_out (by omega)), (by exact hp3)⟩
abbrev po_c_X8_endRow_e (g : GG) (h0 : Nat) (xa : Nat) (xb : Nat) (xc : Nat) (xd : Nat) (xe : Nat) (xf : Nat) (xg : Nat) (xm : Nat) (xv : Nat) (xw : Nat) (xq : Nat) (xr : Nat) (xh : Nat) (xo : Nat) (xp : Nat) (vc : Int) (vk : Int) (vw : Int) (vg : Int) (vb : Int) (vi : Int) (ve : Int) (vf : Int) (vu : Int) (vl : Int) (vr : Int) (va : Int) (vt : Int) (vm : Int) (vd : Int) (vx : Int) (f : Nat → Int32) (fg : Nat → Int32) : Option Value → va_W → Prop := fun v8 w8 => ∃ r : Int, ∃ g2 : Int, ∃ f2 : Nat → Int32, ∃ f3 : Nat → Int32, v8 = some (.int (iI r)) ∧ w8 = [(h0, ob 8 [.ref xa, .ref xb, .ref xc, .ref xd, .ref xe, .ref xf, .ref xg, .int (iI 0), .int (iI vk), .int (iI vw), .ref xm, .ref xv, .int (iI g2), .ref xw, .int (iI vb), .int (iI vi), .ref xq, .int (iI ve), .int (iI vf), .int (iI vu), .int (iI vl), .ref xr, .ref xh, .ref xo, .ref xp, .int (iI vr), .int (iI va), .int (iI vt), .int (iI vm), .int (iI vd), .int (iI vx)]), (xm, aZ g 3000 f2), (xv, aZ g 72000 f3)] ∧ ((r = 1 ∧ vg < 24 ∧ g2 = vg + 1) ∨ (r = 0 ∧ vg = 24 ∧ g2 = vg)) ∧ (bZ f3) ∧ (bZ f2) ∧ (EndR vw vg g2 f f2 fg f3)
set_option maxHeartbeats 4000000 in
set_option maxRecDepth 100000 in
theorem c_X8_endRow_e (l : Launch) (g : GG) (h0 : Nat) (xa : Nat) (xb : Nat) (xc : Nat) (xd : Nat) (xe : Nat) (xf : Nat) (xg : Nat) (xm : Nat) (xv : Nat) (xw : Nat) (xq : Nat) (xr : Nat) (xh : Nat) (xo : Nat) (xp : Nat) (vc : Int) (vk : Int) (vw : Int) (vg : Int) (vb : Int) (vi : Int) (ve : Int) (vf : Int) (vu : Int) (vl : Int) (vr : Int) (va : Int) (vt : Int) (vm : Int) (vd : Int) (vx : Int) (f : Nat → Int32) (fg : Nat → Int32) (hp0 : 0 ≤ vg ∧ vg ≤ 24) (hp1 : 1 ≤ vw ∧ vw ≤ 3000) (hp2 : bZ fg) (hp3 : bZ f) : Ct l g yX8_endRow (wM yX8_endRow cX8_endRow 2 (some .boolean)) (rmD 0 0 0) [.ref h0] [(h0, ob 8 [.ref xa, .ref xb, .ref xc, .ref xd, .ref xe, .ref xf, .ref xg, .int (iI vc), .int (iI vk), .int (iI vw), .ref xm, .ref xv, .int (iI vg), .ref xw, .int (iI vb), .int (iI vi), .ref xq, .int (iI ve), .int (iI vf), .int (iI vu), .int (iI vl), .ref xr, .ref xh, .ref xo, .ref xp, .int (iI vr), .int (iI va), .int (iI vt), .int (iI vm), .int (iI vd), .int (iI vx)]), (xm, aZ g 3000 f), (xv, aZ g 72000 fg)] (po_c_X8_endRow_e g h0 xa xb xc xd xe xf xg xm xv xw xq xr xh xo xp vc vk vw vg vb vi ve vf vu vl vr va vt vm vd vx f fg) := by
  refine Ct_of (by decide +kernel) (Nat.le_of_ble_eq_true rfl) ?_
  intro p9 e9 s9 m9 ag9 bl9 mt9 c9 A9 fx hr hnm
  refine v_aload_n fx 0 dX8_endRow_0 rfl rfl ?_
  refine v_iconst fx dX8_endRow_1 rfl ?_
  refine v_put fx 0 7 [(h0, ob 8 [.ref xa, .ref xb, .ref xc, .ref xd, .ref xe, .ref xf, .ref xg, .int (iI 0), .int (iI vk), .int (iI vw), .ref xm, .ref xv, .int (iI vg), .ref xw, .int (iI vb), .int (iI vi), .ref xq, .int (iI ve), .int (iI vf), .int (iI vu), .int (iI vl), .ref xr, .ref xh, .ref xo, .ref xp, .int (iI vr), .int (iI va), .int (iI vt), .int (iI vm), .int (iI vd), .int (iI vx)]), (xm, aZ g 3000 f), (xv, aZ g 72000 fg)] inX8 tyX8_ok nmX8 k1003 dX8_endRow_2 rfl rfl (by decide) rfl rfl rfl rfl (nl rfl) rfl rfl ?_
  refine v_aload_n fx 0 dX8_endRow_5 rfl rfl ?_
  refine v_get fx 0 12 inX8 k1008 dX8_endRow_6 rfl rfl (by decide) rfl rfl rfl ?_
  refine v_bipush fx dX8_endRow_9 (by decide +kernel) rfl ?_
  refine v_icmp_ne fx 16 dX8_endRow_11 (by decide) rfl (by omega) (by omega) (fun h_1 => ?_) (fun h_1 => ?_)
  ·
    refine v_iconst fx dX8_endRow_16 rfl ?_
    refine v_istore_n fx [(1, .int (iI 0)), (0, .ref h0)] dX8_endRow_17 (by decide) rfl rfl ?_
    have L18 : ∀ (N : Nat) (i : Int) (f4 : Nat → Int32) (f5 : Nat → Int32), (0 ≤ i ∧ i ≤ vw) → (vg < 24) → (bZ f5) → (bZ f4) → (∀ x, 0 ≤ x → x < i → f5 (3000 * vg + x).toNat = f x.toNat) → (∀ j : Nat, (j : Int) < 3000 * vg → f5 j = fg j) → (∀ x, 0 ≤ x → x < i → f4 x.toNat = 0) → (∀ x, i ≤ x → f4 x.toNat = f x.toNat) → ((vw - i).toNat) < N → V p9 l e9 (rmD 0 0 0) s9 m9 ag9 bl9 mt9 c9 2 g A9 (MQ bl9 (cQ g (po_c_X8_endRow_e g h0 xa xb xc xd xe xf xg xm xv xw xq xr xh xo xp vc vk vw vg vb vi ve vf vu vl vr va vt vm vd vx f fg) A9) ag9 s9 0 0 A9) [(h0, ob 8 [.ref xa, .ref xb, .ref xc, .ref xd, .ref xe, .ref xf, .ref xg, .int (iI 0), .int (iI vk), .int (iI vw), .ref xm, .ref xv, .int (iI vg), .ref xw, .int (iI vb), .int (iI vi), .ref xq, .int (iI ve), .int (iI vf), .int (iI vu), .int (iI vl), .ref xr, .ref xh, .ref xo, .ref xp, .int (iI vr), .int (iI va), .int (iI vt), .int (iI vm), .int (iI vd), .int (iI vx)]), (xm, aZ g 3000 f4), (xv, aZ g 72000 f5)] 0 0 [(0, .ref h0), (1, .int (iI i))] 18 [] := by
      intro N
      induction N with
      | zero => intro i f4 f5 hi18_0 hi18_1 hi18_2 hi18_3 hi18_4 hi18_5 hi18_6 hi18_7 hN; exact absurd hN (Nat.not_lt_zero _)
      | succ N ihL18 =>
        intro i f4 f5 hi18_0 hi18_1 hi18_2 hi18_3 hi18_4 hi18_5 hi18_6 hi18_7 hN18
        refine v_iload_n fx 1 dX8_endRow_18 rfl rfl ?_
        refine v_aload_n fx 0 dX8_endRow_19 rfl rfl ?_
        refine v_get fx 0 9 inX8 k1005 dX8_endRow_20 rfl rfl (by decide) rfl rfl rfl ?_
        refine v_icmp_ge fx 60 dX8_endRow_23 (by decide) rfl (by omega) (by omega) (fun h_2 => ?_) (fun h_2 => ?_)
        ·
          refine v_aload_n fx 0 dX8_endRow_60 rfl rfl ?_
          refine v_dup fx dX8_endRow_61 rfl rfl ?_
          refine v_get fx 0 12 inX8 k1008 dX8_endRow_62 rfl rfl (by decide) rfl rfl rfl ?_
          refine v_iconst fx dX8_endRow_65 rfl ?_
          refine v_iadd fx (vg + 1) dX8_endRow_66 (by rfl) rfl ?_
          refine v_put fx 0 12 [(h0, ob 8 [.ref xa, .ref xb, .ref xc, .ref xd, .ref xe, .ref xf, .ref xg, .int (iI 0), .int (iI vk), .int (iI vw), .ref xm, .ref xv, .int (iI (vg + 1)), .ref xw, .int (iI vb), .int (iI vi), .ref xq, .int (iI ve), .int (iI vf), .int (iI vu), .int (iI vl), .ref xr, .ref xh, .ref xo, .ref xp, .int (iI vr), .int (iI va), .int (iI vt), .int (iI vm), .int (iI vd), .int (iI vx)]), (xm, aZ g 3000 f4), (xv, aZ g 72000 f5)] inX8 tyX8_ok nmX8 k1008 dX8_endRow_67 rfl rfl (by decide) rfl rfl rfl rfl (nl rfl) rfl rfl ?_
          refine v_iconst fx dX8_endRow_70 rfl ?_
          exact v_zret fx [(h0, ob 8 [.ref xa, .ref xb, .ref xc, .ref xd, .ref xe, .ref xf, .ref xg, .int (iI 0), .int (iI vk), .int (iI vw), .ref xm, .ref xv, .int (iI (vg + 1)), .ref xw, .int (iI vb), .int (iI vi), .ref xq, .int (iI ve), .int (iI vf), .int (iI vu), .int (iI vl), .ref xr, .ref xh, .ref xo, .ref xp, .int (iI vr), .int (iI va), .int (iI vt), .int (iI vm), .int (iI vd), .int (iI vx)]), (xm, aZ g 3000 f4), (xv, aZ g 72000 f5)] [0, 1, 2] hr dX8_endRow_71 (by first | rfl | exact nar_z _ (by omega)) rfl rfl (nl rfl) (nl rfl) ⟨1, (vg + 1), f4, f5, rfl, rfl, (by first | omega | rfl | assumption), (by exact hi18_2), (by exact hi18_3), (by exact Or.inr ⟨rfl, fun x h1 h2 => hi18_4 x h1 (by omega), hi18_5, fun x h1 h2 => hi18_6 x h1 (by omega)⟩)⟩
        ·
          refine v_aload_n fx 0 dX8_endRow_26 rfl rfl ?_
          refine v_get fx 0 11 inX8 k1007 dX8_endRow_27 rfl rfl (by decide) rfl rfl rfl ?_
          refine v_sipush fx dX8_endRow_30 (by decide +kernel) rfl ?_
          refine v_aload_n fx 0 dX8_endRow_33 rfl rfl ?_
          refine v_get fx 0 12 inX8 k1008 dX8_endRow_34 rfl rfl (by decide) rfl rfl rfl ?_
          refine v_imul fx (3000 * vg) dX8_endRow_37 (by rfl) rfl ?_
          refine v_iload_n fx 1 dX8_endRow_38 rfl rfl ?_
          refine v_iadd fx ((3000 * vg) + i) dX8_endRow_39 (by rfl) rfl ?_
          refine v_aload_n fx 0 dX8_endRow_40 rfl rfl ?_
          refine v_get fx 0 10 inX8 k1006 dX8_endRow_41 rfl rfl (by decide) rfl rfl rfl ?_
          refine v_iload_n fx 1 dX8_endRow_44 rfl rfl ?_
          refine v_zald fx 1 dX8_endRow_45 rfl (by omega) (by omega) rfl ?_
          obtain ⟨f_3, ef_3⟩ : ∃ f9 : Nat → Int32, upd f5 ((3000 * vg) + i).toNat (vp_nar .boolean (f4 (i).toNat)) = f9 := ⟨_, rfl⟩
          refine v_zast fx 2 f_3 [(h0, ob 8 [.ref xa, .ref xb, .ref xc, .ref xd, .ref xe, .ref xf, .ref xg, .int (iI 0), .int (iI vk), .int (iI vw), .ref xm, .ref xv, .int (iI vg), .ref xw, .int (iI vb), .int (iI vi), .ref xq, .int (iI ve), .int (iI vf), .int (iI vu), .int (iI vl), .ref xr, .ref xh, .ref xo, .ref xp, .int (iI vr), .int (iI va), .int (iI vt), .int (iI vm), .int (iI vd), .int (iI vx)]), (xm, aZ g 3000 f4), (xv, aZ g 72000 f_3)] dX8_endRow_46 rfl (by omega) (by omega) ef_3 rfl rfl ?_
          refine v_aload_n fx 0 dX8_endRow_47 rfl rfl ?_
          refine v_get fx 0 10 inX8 k1006 dX8_endRow_48 rfl rfl (by decide) rfl rfl rfl ?_
          refine v_iload_n fx 1 dX8_endRow_51 rfl rfl ?_
          refine v_iconst fx dX8_endRow_52 rfl ?_
          obtain ⟨f_4, ef_4⟩ : ∃ f9 : Nat → Int32, upd f4 (i).toNat (vp_nar .boolean (iI 0)) = f9 := ⟨_, rfl⟩
          refine v_zast fx 1 f_4 [(h0, ob 8 [.ref xa, .ref xb, .ref xc, .ref xd, .ref xe, .ref xf, .ref xg, .int (iI 0), .int (iI vk), .int (iI vw), .ref xm, .ref xv, .int (iI vg), .ref xw, .int (iI vb), .int (iI vi), .ref xq, .int (iI ve), .int (iI vf), .int (iI vu), .int (iI vl), .ref xr, .ref xh, .ref xo, .ref xp, .int (iI vr), .int (iI va), .int (iI vt), .int (iI vm), .int (iI vd), .int (iI vx)]), (xm, aZ g 3000 f_4), (xv, aZ g 72000 f_3)] dX8_endRow_53 rfl (by omega) (by omega) ef_4 rfl rfl ?_
          refine v_iinc fx 1 (i + 1) [(1, .int (iI (i + 1))), (0, .ref h0)] dX8_endRow_54 rfl (by omega) (by decide) rfl rfl ?_
          refine v_goto fx 18 dX8_endRow_57 (by decide) ?_
          refine v_lv [1, 0] [(0, .ref h0), (1, .int (iI (i + 1)))] rfl ?_
          exact ihL18 (i + 1) f_4 f_3 (by omega) (by omega) (by exact bZ_updE (by assumption) hi18_2) (by exact bZ_updE (by assumption) hi18_3) (by exact eR_1 (by assumption) hi18_3 hi18_4 hi18_7 (by omega)) (by exact eR_2 (by assumption) hi18_5 (by omega)) (by exact eR_3 (by assumption) hi18_6 (by omega)) (by exact eR_4 (by assumption) hi18_7 (by omega)) (by omega)
    refine v_lv [1, 0] [(0, .ref h0), (1, .int (iI 0))] rfl ?_
    exact L18 _ 0 f fg (by omega) (by omega) (by exact hp2) (by exact hp3) (by exact fun x h1 h2 => by omega) (by exact fun j h => rfl) (by exact fun x h1 h2 => by omega) (by exact fun x h => rfl) (Nat.lt_succ_self _)
  ·
    refine v_iconst fx dX8_endRow_14 rfl ?_
    exact v_zret fx [(h0, ob 8 [.ref xa, .ref xb, .ref xc, .ref xd, .ref xe, .ref xf, .ref xg, .int (iI 0), .int (iI vk), .int (iI vw), .ref xm, .ref xv, .int (iI vg), .ref xw, .int (iI vb), .int (iI vi), .ref xq, .int (iI ve), .int (iI vf), .int (iI vu), .int (iI vl), .ref xr, .ref xh, .ref xo, .ref xp, .int (iI vr), .int (iI va), .int (iI vt), .int (iI vm), .int (iI vd), .int (iI vx)]), (xm, aZ g 3000 f), (xv, aZ g 72000 fg)] [0, 1, 2] hr dX8_endRow_15 (by first | rfl | exact nar_z _ (by omega)) rfl rfl (nl rfl) (nl rfl) ⟨0, vg, f, fg, rfl, rfl, (by first | omega | rfl | assumption), (by exact hp2), (by exact hp3), (by exact Or.inl ⟨rfl, rfl, rfl⟩)⟩
abbrev po_c_X8_clear_e (g : GG) (h0 : Nat) (xa : Nat) (xb : Nat) (xc : Nat) (xd : Nat) (xe : Nat) (xf : Nat) (xg : Nat) (xm : Nat) (xv : Nat) (xw : Nat) (xq : Nat) (xr : Nat) (xh : Nat) (xo : Nat) (xp : Nat) (vc : Int) (vk : Int) (vw : Int) (vg : Int) (vb : Int) (vi : Int) (ve : Int) (vf : Int) (vu : Int) (vl : Int) (vr : Int) (va : Int) (vt : Int) (vm : Int) (vd : Int) (vx : Int) (f : Nat → Int32) : Option Value → va_W → Prop := fun v8 w8 => ∃ f2 : Nat → Int32, v8 = none ∧ w8 = [(h0, ob 8 [.ref xa, .ref xb, .ref xc, .ref xd, .ref xe, .ref xf, .ref xg, .int (iI 0), .int (iI vk), .int (iI vw), .ref xm, .ref xv, .int (iI 0), .ref xw, .int (iI 0), .int (iI 0), .ref xq, .int (iI 0), .int (iI vf), .int (iI vu), .int (iI vl), .ref xr, .ref xh, .ref xo, .ref xp, .int (iI 0), .int (iI va), .int (iI vt), .int (iI vm), .int (iI vd), .int (iI vx)]), (xm, aZ g 3000 f2)] ∧ (bZ f2) ∧ (∀ x, 0 ≤ x → x < vw → f2 x.toNat = 0)
set_option maxHeartbeats 4000000 in
set_option maxRecDepth 100000 in
theorem c_X8_clear_e (l : Launch) (g : GG) (h0 : Nat) (xa : Nat) (xb : Nat) (xc : Nat) (xd : Nat) (xe : Nat) (xf : Nat) (xg : Nat) (xm : Nat) (xv : Nat) (xw : Nat) (xq : Nat) (xr : Nat) (xh : Nat) (xo : Nat) (xp : Nat) (vc : Int) (vk : Int) (vw : Int) (vg : Int) (vb : Int) (vi : Int) (ve : Int) (vf : Int) (vu : Int) (vl : Int) (vr : Int) (va : Int) (vt : Int) (vm : Int) (vd : Int) (vx : Int) (f : Nat → Int32) (hp0 : 1 ≤ vw ∧ vw ≤ 3000) (hp1 : bZ f) : Ct l g yX8_clear (wM yX8_clear cX8_clear 2 none) (rmD 0 0 0) [.ref h0] [(h0, ob 8 [.ref xa, .ref xb, .ref xc, .ref xd, .ref xe, .ref xf, .ref xg, .int (iI vc), .int (iI vk), .int (iI vw), .ref xm, .ref xv, .int (iI vg), .ref xw, .int (iI vb), .int (iI vi), .ref xq, .int (iI ve), .int (iI vf), .int (iI vu), .int (iI vl), .ref xr, .ref xh, .ref xo, .ref xp, .int (iI vr), .int (iI va), .int (iI vt), .int (iI vm), .int (iI vd), .int (iI vx)]), (xm, aZ g 3000 f)] (po_c_X8_clear_e g h0 xa xb xc xd xe xf xg xm xv xw xq xr xh xo xp vc vk vw vg vb vi ve vf vu vl vr va vt vm vd vx f) := by
  refine Ct_of (by decide +kernel) (Nat.le_of_ble_eq_true rfl) ?_
  intro p9 e9 s9 m9 ag9 bl9 mt9 c9 A9 fx hr hnm
  refine v_aload_n fx 0 dX8_clear_0 rfl rfl ?_
  refine v_iconst fx dX8_clear_1 rfl ?_
  refine v_put fx 0 7 [(h0, ob 8 [.ref xa, .ref xb, .ref xc, .ref xd, .ref xe, .ref xf, .ref xg, .int (iI 0), .int (iI vk), .int (iI vw), .ref xm, .ref xv, .int (iI vg), .ref xw, .int (iI vb), .int (iI vi), .ref xq, .int (iI ve), .int (iI vf), .int (iI vu), .int (iI vl), .ref xr, .ref xh, .ref xo, .ref xp, .int (iI vr), .int (iI va), .int (iI vt), .int (iI vm), .int (iI vd), .int (iI vx)]), (xm, aZ g 3000 f)] inX8 tyX8_ok nmX8 k1003 dX8_clear_2 rfl rfl (by decide) rfl rfl rfl rfl (nl rfl) rfl rfl ?_
  refine v_iconst fx dX8_clear_5 rfl ?_
  refine v_istore_n fx [(1, .int (iI 0)), (0, .ref h0)] dX8_clear_6 (by decide) rfl rfl ?_
  have L7 : ∀ (N : Nat) (i : Int) (f1 : Nat → Int32), (0 ≤ i ∧ i ≤ vw) → (bZ f1) → (∀ x, 0 ≤ x → x < i → f1 x.toNat = 0) → ((vw - i).toNat) < N → V p9 l e9 (rmD 0 0 0) s9 m9 ag9 bl9 mt9 c9 2 g A9 (MQ bl9 (cQ g (po_c_X8_clear_e g h0 xa xb xc xd xe xf xg xm xv xw xq xr xh xo xp vc vk vw vg vb vi ve vf vu vl vr va vt vm vd vx f) A9) ag9 s9 0 0 A9) [(h0, ob 8 [.ref xa, .ref xb, .ref xc, .ref xd, .ref xe, .ref xf, .ref xg, .int (iI 0), .int (iI vk), .int (iI vw), .ref xm, .ref xv, .int (iI vg), .ref xw, .int (iI vb), .int (iI vi), .ref xq, .int (iI ve), .int (iI vf), .int (iI vu), .int (iI vl), .ref xr, .ref xh, .ref xo, .ref xp, .int (iI vr), .int (iI va), .int (iI vt), .int (iI vm), .int (iI vd), .int (iI vx)]), (xm, aZ g 3000 f1)] 0 0 [(0, .ref h0), (1, .int (iI i))] 7 [] := by
    intro N
    induction N with
    | zero => intro i f1 hi7_0 hi7_1 hi7_2 hN; exact absurd hN (Nat.not_lt_zero _)
    | succ N ihL7 =>
      intro i f1 hi7_0 hi7_1 hi7_2 hN7
      refine v_iload_n fx 1 dX8_clear_7 rfl rfl ?_
      refine v_aload_n fx 0 dX8_clear_8 rfl rfl ?_
      refine v_get fx 0 9 inX8 k1005 dX8_clear_9 rfl rfl (by decide) rfl rfl rfl ?_
      refine v_icmp_ge fx 28 dX8_clear_12 (by decide) rfl (by omega) (by omega) (fun h_1 => ?_) (fun h_1 => ?_)
      ·
        refine v_aload_n fx 0 dX8_clear_28 rfl rfl ?_
        refine v_iconst fx dX8_clear_29 rfl ?_
        refine v_put fx 0 12 [(h0, ob 8 [.ref xa, .ref xb, .ref xc, .ref xd, .ref xe, .ref xf, .ref xg, .int (iI 0), .int (iI vk), .int (iI vw), .ref xm, .ref xv, .int (iI 0), .ref xw, .int (iI vb), .int (iI vi), .ref xq, .int (iI ve), .int (iI vf), .int (iI vu), .int (iI vl), .ref xr, .ref xh, .ref xo, .ref xp, .int (iI vr), .int (iI va), .int (iI vt), .int (iI vm), .int (iI vd), .int (iI vx)]), (xm, aZ g 3000 f1)] inX8 tyX8_ok nmX8 k1008 dX8_clear_30 rfl rfl (by decide) rfl rfl rfl rfl (nl rfl) rfl rfl ?_
        refine v_aload_n fx 0 dX8_clear_33 rfl rfl ?_
        refine v_iconst fx dX8_clear_34 rfl ?_
        refine v_put fx 0 15 [(h0, ob 8 [.ref xa, .ref xb, .ref xc, .ref xd, .ref xe, .ref xf, .ref xg, .int (iI 0), .int (iI vk), .int (iI vw), .ref xm, .ref xv, .int (iI 0), .ref xw, .int (iI vb), .int (iI 0), .ref xq, .int (iI ve), .int (iI vf), .int (iI vu), .int (iI vl), .ref xr, .ref xh, .ref xo, .ref xp, .int (iI vr), .int (iI va), .int (iI vt), .int (iI vm), .int (iI vd), .int (iI vx)]), (xm, aZ g 3000 f1)] inX8 tyX8_ok nmX8 k1011 dX8_clear_35 rfl rfl (by decide) rfl rfl rfl rfl (nl rfl) rfl rfl ?_
        refine v_aload_n fx 0 dX8_clear_38 rfl rfl ?_
        refine v_iconst fx dX8_clear_39 rfl ?_
        refine v_put fx 0 14 [(h0, ob 8 [.ref xa, .ref xb, .ref xc, .ref xd, .ref xe, .ref xf, .ref xg, .int (iI 0), .int (iI vk), .int (iI vw), .ref xm, .ref xv, .int (iI 0), .ref xw, .int (iI 0), .int (iI 0), .ref xq, .int (iI ve), .int (iI vf), .int (iI vu), .int (iI vl), .ref xr, .ref xh, .ref xo, .ref xp, .int (iI vr), .int (iI va), .int (iI vt), .int (iI vm), .int (iI vd), .int (iI vx)]), (xm, aZ g 3000 f1)] inX8 tyX8_ok nmX8 k1010 dX8_clear_40 rfl rfl (by decide) rfl rfl rfl rfl (nl rfl) rfl rfl ?_
        refine v_aload_n fx 0 dX8_clear_43 rfl rfl ?_
        refine v_iconst fx dX8_clear_44 rfl ?_
        refine v_put fx 0 17 [(h0, ob 8 [.ref xa, .ref xb, .ref xc, .ref xd, .ref xe, .ref xf, .ref xg, .int (iI 0), .int (iI vk), .int (iI vw), .ref xm, .ref xv, .int (iI 0), .ref xw, .int (iI 0), .int (iI 0), .ref xq, .int (iI 0), .int (iI vf), .int (iI vu), .int (iI vl), .ref xr, .ref xh, .ref xo, .ref xp, .int (iI vr), .int (iI va), .int (iI vt), .int (iI vm), .int (iI vd), .int (iI vx)]), (xm, aZ g 3000 f1)] inX8 tyX8_ok nmX8 k1013 dX8_clear_45 rfl rfl (by decide) rfl rfl rfl rfl (nl rfl) rfl rfl ?_
        refine v_aload_n fx 0 dX8_clear_48 rfl rfl ?_
        refine v_iconst fx dX8_clear_49 rfl ?_
        refine v_put fx 0 25 [(h0, ob 8 [.ref xa, .ref xb, .ref xc, .ref xd, .ref xe, .ref xf, .ref xg, .int (iI 0), .int (iI vk), .int (iI vw), .ref xm, .ref xv, .int (iI 0), .ref xw, .int (iI 0), .int (iI 0), .ref xq, .int (iI 0), .int (iI vf), .int (iI vu), .int (iI vl), .ref xr, .ref xh, .ref xo, .ref xp, .int (iI 0), .int (iI va), .int (iI vt), .int (iI vm), .int (iI vd), .int (iI vx)]), (xm, aZ g 3000 f1)] inX8 tyX8_ok nmX8 k1021 dX8_clear_50 rfl rfl (by decide) rfl rfl rfl rfl (nl rfl) rfl rfl ?_
        exact v_vret fx [(h0, ob 8 [.ref xa, .ref xb, .ref xc, .ref xd, .ref xe, .ref xf, .ref xg, .int (iI 0), .int (iI vk), .int (iI vw), .ref xm, .ref xv, .int (iI 0), .ref xw, .int (iI 0), .int (iI 0), .ref xq, .int (iI 0), .int (iI vf), .int (iI vu), .int (iI vl), .ref xr, .ref xh, .ref xo, .ref xp, .int (iI 0), .int (iI va), .int (iI vt), .int (iI vm), .int (iI vd), .int (iI vx)]), (xm, aZ g 3000 f1)] [0, 1] hr dX8_clear_53 rfl rfl (nl rfl) (nl rfl) ⟨f1, rfl, rfl, (by exact hi7_1), (by exact fun x h1 h2 => hi7_2 x h1 (by omega))⟩
      ·
        refine v_aload_n fx 0 dX8_clear_15 rfl rfl ?_
        refine v_get fx 0 10 inX8 k1006 dX8_clear_16 rfl rfl (by decide) rfl rfl rfl ?_
        refine v_iload_n fx 1 dX8_clear_19 rfl rfl ?_
        refine v_iconst fx dX8_clear_20 rfl ?_
        obtain ⟨f_2, ef_2⟩ : ∃ f9 : Nat → Int32, upd f1 (i).toNat (vp_nar .boolean (iI 0)) = f9 := ⟨_, rfl⟩
        refine v_zast fx 1 f_2 [(h0, ob 8 [.ref xa, .ref xb, .ref xc, .ref xd, .ref xe, .ref xf, .ref xg, .int (iI 0), .int (iI vk), .int (iI vw), .ref xm, .ref xv, .int (iI vg), .ref xw, .int (iI vb), .int (iI vi), .ref xq, .int (iI ve), .int (iI vf), .int (iI vu), .int (iI vl), .ref xr, .ref xh, .ref xo, .ref xp, .int (iI vr), .int (iI va), .int (iI vt), .int (iI vm), .int (iI vd), .int (iI vx)]), (xm, aZ g 3000 f_2)] dX8_clear_21 rfl (by omega) (by omega) ef_2 rfl rfl ?_
        refine v_iinc fx 1 (i + 1) [(1, .int (iI (i + 1))), (0, .ref h0)] dX8_clear_22 rfl (by omega) (by decide) rfl rfl ?_
        refine v_goto fx 7 dX8_clear_25 (by decide) ?_
        refine v_lv [1, 0] [(0, .ref h0), (1, .int (iI (i + 1)))] rfl ?_
        exact ihL7 (i + 1) f_2 (by omega) (by exact bZ_updE (by assumption) hi7_1) (by exact eR_3 (by assumption) hi7_2 (by omega)) (by omega)
  refine v_lv [1, 0] [(0, .ref h0), (1, .int (iI 0))] rfl ?_
  exact L7 _ 0 f (by omega) (by exact hp1) (by exact fun x h1 h2 => by omega) (Nat.lt_succ_self _)
abbrev po_c_X8_byteAt_e (g : GG) (h0 : Nat) (xa : Nat) (xb : Nat) (xc : Nat) (xd : Nat) (xe : Nat) (xf : Nat) (xg : Nat) (xm : Nat) (xv : Nat) (xw : Nat) (xq : Nat) (xr : Nat) (xh : Nat) (xo : Nat) (xp : Nat) (vc : Int) (vk : Int) (vw : Int) (vg : Int) (vb : Int) (vi : Int) (ve : Int) (vf : Int) (vu : Int) (vl : Int) (vr : Int) (va : Int) (vt : Int) (vm : Int) (vd : Int) (vx : Int) (f : Nat → Int32) (x : Int) : Option Value → va_W → Prop := fun v8 w8 => ∃ q : Int32, v8 = some (.int q) ∧ w8 = [(h0, ob 8 [.ref xa, .ref xb, .ref xc, .ref xd, .ref xe, .ref xf, .ref xg, .int (iI 0), .int (iI vk), .int (iI vw), .ref xm, .ref xv, .int (iI vg), .ref xw, .int (iI vb), .int (iI vi), .ref xq, .int (iI ve), .int (iI vf), .int (iI vu), .int (iI vl), .ref xr, .ref xh, .ref xo, .ref xp, .int (iI vr), .int (iI va), .int (iI vt), .int (iI vm), .int (iI vd), .int (iI vx)]), (xw, aI g 72000 f)] ∧ ((vi ≠ 0 ∧ 0 ≤ x ∧ x < (vb + 7) / 8 ∧ q = f x.toNat) ∨ ((vi = 0 ∨ x < 0 ∨ (vb + 7) / 8 ≤ x) ∧ q = iI (-1)))
set_option maxHeartbeats 4000000 in
set_option maxRecDepth 100000 in
theorem c_X8_byteAt_e (l : Launch) (g : GG) (h0 : Nat) (xa : Nat) (xb : Nat) (xc : Nat) (xd : Nat) (xe : Nat) (xf : Nat) (xg : Nat) (xm : Nat) (xv : Nat) (xw : Nat) (xq : Nat) (xr : Nat) (xh : Nat) (xo : Nat) (xp : Nat) (vc : Int) (vk : Int) (vw : Int) (vg : Int) (vb : Int) (vi : Int) (ve : Int) (vf : Int) (vu : Int) (vl : Int) (vr : Int) (va : Int) (vt : Int) (vm : Int) (vd : Int) (vx : Int) (f : Nat → Int32) (x : Int) (hp0 : -2147483648 ≤ x ∧ x < 2147483648) (hp1 : 0 ≤ vi ∧ vi ≤ 1) (hp2 : 0 ≤ vb ∧ vb ≤ 507000) : Ct l g yX8_byteAt (wM yX8_byteAt cX8_byteAt 2 (some .int)) (rmD 0 0 0) [.ref h0, .int (iI x)] [(h0, ob 8 [.ref xa, .ref xb, .ref xc, .ref xd, .ref xe, .ref xf, .ref xg, .int (iI vc), .int (iI vk), .int (iI vw), .ref xm, .ref xv, .int (iI vg), .ref xw, .int (iI vb), .int (iI vi), .ref xq, .int (iI ve), .int (iI vf), .int (iI vu), .int (iI vl), .ref xr, .ref xh, .ref xo, .ref xp, .int (iI vr), .int (iI va), .int (iI vt), .int (iI vm), .int (iI vd), .int (iI vx)]), (xw, aI g 72000 f)] (po_c_X8_byteAt_e g h0 xa xb xc xd xe xf xg xm xv xw xq xr xh xo xp vc vk vw vg vb vi ve vf vu vl vr va vt vm vd vx f x) := by
  refine Ct_of (by decide +kernel) (Nat.le_of_ble_eq_true rfl) ?_
  intro p9 e9 s9 m9 ag9 bl9 mt9 c9 A9 fx hr hnm
  refine v_aload_n fx 0 dX8_byteAt_0 rfl rfl ?_
  refine v_iconst fx dX8_byteAt_1 rfl ?_
  refine v_put fx 0 7 [(h0, ob 8 [.ref xa, .ref xb, .ref xc, .ref xd, .ref xe, .ref xf, .ref xg, .int (iI 0), .int (iI vk), .int (iI vw), .ref xm, .ref xv, .int (iI vg), .ref xw, .int (iI vb), .int (iI vi), .ref xq, .int (iI ve), .int (iI vf), .int (iI vu), .int (iI vl), .ref xr, .ref xh, .ref xo, .ref xp, .int (iI vr), .int (iI va), .int (iI vt), .int (iI vm), .int (iI vd), .int (iI vx)]), (xw, aI g 72000 f)] inX8 tyX8_ok nmX8 k1003 dX8_byteAt_2 rfl rfl (by decide) rfl rfl rfl rfl (nl rfl) rfl rfl ?_
  refine v_aload_n fx 0 dX8_byteAt_5 rfl rfl ?_
  refine v_get fx 0 15 inX8 k1011 dX8_byteAt_6 rfl rfl (by decide) rfl rfl rfl ?_
  refine v_if_eq fx 39 dX8_byteAt_9 (by decide) rfl (by omega) (fun h_1 => ?_) (fun h_1 => ?_)
  ·
    refine v_iconst fx dX8_byteAt_39 rfl ?_
    exact v_iret fx [(h0, ob 8 [.ref xa, .ref xb, .ref xc, .ref xd, .ref xe, .ref xf, .ref xg, .int (iI 0), .int (iI vk), .int (iI vw), .ref xm, .ref xv, .int (iI vg), .ref xw, .int (iI vb), .int (iI vi), .ref xq, .int (iI ve), .int (iI vf), .int (iI vu), .int (iI vl), .ref xr, .ref xh, .ref xo, .ref xp, .int (iI vr), .int (iI va), .int (iI vt), .int (iI vm), .int (iI vd), .int (iI vx)]), (xw, aI g 72000 f)] [0, 1] hr dX8_byteAt_40 rfl rfl (nl rfl) (nl rfl) ⟨(iI (-1)), rfl, rfl, (by first | exact Or.inl ⟨by omega, by omega, by omega, rfl⟩ | exact Or.inr ⟨by omega, rfl⟩)⟩
  ·
    refine v_iload_n fx 1 dX8_byteAt_12 rfl rfl ?_
    refine v_if_lt fx 39 dX8_byteAt_13 (by decide) rfl (by omega) (fun h_2 => ?_) (fun h_2 => ?_)
    ·
      refine v_iconst fx dX8_byteAt_39 rfl ?_
      exact v_iret fx [(h0, ob 8 [.ref xa, .ref xb, .ref xc, .ref xd, .ref xe, .ref xf, .ref xg, .int (iI 0), .int (iI vk), .int (iI vw), .ref xm, .ref xv, .int (iI vg), .ref xw, .int (iI vb), .int (iI vi), .ref xq, .int (iI ve), .int (iI vf), .int (iI vu), .int (iI vl), .ref xr, .ref xh, .ref xo, .ref xp, .int (iI vr), .int (iI va), .int (iI vt), .int (iI vm), .int (iI vd), .int (iI vx)]), (xw, aI g 72000 f)] [0, 1] hr dX8_byteAt_40 rfl rfl (nl rfl) (nl rfl) ⟨(iI (-1)), rfl, rfl, (by first | exact Or.inl ⟨by omega, by omega, by omega, rfl⟩ | exact Or.inr ⟨by omega, rfl⟩)⟩
    ·
      refine v_iload_n fx 1 dX8_byteAt_16 rfl rfl ?_
      refine v_aload_n fx 0 dX8_byteAt_17 rfl rfl ?_
      refine v_get fx 0 14 inX8 k1010 dX8_byteAt_18 rfl rfl (by decide) rfl rfl rfl ?_
      refine v_bipush fx dX8_byteAt_21 (by decide +kernel) rfl ?_
      refine v_iadd fx (vb + 7) dX8_byteAt_23 (by rfl) rfl ?_
      refine v_bipush fx dX8_byteAt_24 (by decide +kernel) rfl ?_
      refine v_idiv fx (iI ((vb + 7) / 8)) dX8_byteAt_26 (by decide) (iI_div (by omega) 8 (by decide) (by decide)) rfl ?_
      refine v_icmp_ge fx 39 dX8_byteAt_27 (by decide) rfl (by omega) (by omega) (fun h_3 => ?_) (fun h_3 => ?_)
      ·
        refine v_iconst fx dX8_byteAt_39 rfl ?_
        exact v_iret fx [(h0, ob 8 [.ref xa, .ref xb, .ref xc, .ref xd, .ref xe, .ref xf, .ref xg, .int (iI 0), .int (iI vk), .int (iI vw), .ref xm, .ref xv, .int (iI vg), .ref xw, .int (iI vb), .int (iI vi), .ref xq, .int (iI ve), .int (iI vf), .int (iI vu), .int (iI vl), .ref xr, .ref xh, .ref xo, .ref xp, .int (iI vr), .int (iI va), .int (iI vt), .int (iI vm), .int (iI vd), .int (iI vx)]), (xw, aI g 72000 f)] [0, 1] hr dX8_byteAt_40 rfl rfl (nl rfl) (nl rfl) ⟨(iI (-1)), rfl, rfl, (by first | exact Or.inl ⟨by omega, by omega, by omega, rfl⟩ | exact Or.inr ⟨by omega, rfl⟩)⟩
      ·
        refine v_aload_n fx 0 dX8_byteAt_30 rfl rfl ?_
        refine v_get fx 0 13 inX8 k1009 dX8_byteAt_31 rfl rfl (by decide) rfl rfl rfl ?_
        refine v_iload_n fx 1 dX8_byteAt_34 rfl rfl ?_
        refine v_iald fx 1 dX8_byteAt_35 rfl (by omega) (by omega) rfl ?_
        refine v_goto fx 40 dX8_byteAt_36 (by decide) ?_
        exact v_iret fx [(h0, ob 8 [.ref xa, .ref xb, .ref xc, .ref xd, .ref xe, .ref xf, .ref xg, .int (iI 0), .int (iI vk), .int (iI vw), .ref xm, .ref xv, .int (iI vg), .ref xw, .int (iI vb), .int (iI vi), .ref xq, .int (iI ve), .int (iI vf), .int (iI vu), .int (iI vl), .ref xr, .ref xh, .ref xo, .ref xp, .int (iI vr), .int (iI va), .int (iI vt), .int (iI vm), .int (iI vd), .int (iI vx)]), (xw, aI g 72000 f)] [0, 1] hr dX8_byteAt_40 rfl rfl (nl rfl) (nl rfl) ⟨(f (x).toNat), rfl, rfl, (by first | exact Or.inl ⟨by omega, by omega, by omega, rfl⟩ | exact Or.inr ⟨by omega, rfl⟩)⟩
