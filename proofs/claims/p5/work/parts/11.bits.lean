/-! BITS, in general -/
/-- how many bits a code has behind its first 1 -/
def clen (x : Int) : Nat := Nat.log2 x.toNat
theorem clen_b {x : Int} (h : 1 ≤ x) : ((2 ^ clen x : Nat) : Int) ≤ x ∧ x < 2 * ((2 ^ clen x : Nat) : Int) := by
  unfold clen
  have h0 : x.toNat ≠ 0 := by omega
  have h1 := Nat.log2_self_le h0
  have h2 := Nat.lt_log2_self (n := x.toNat)
  rw [Nat.pow_succ] at h2
  generalize 2 ^ x.toNat.log2 = k at h1 h2 ⊢
  omega
/-- the bit of a code before which i bits are still to come, that one with them -/
def hb2 (i : Nat) : Int := ((2 ^ i : Nat) : Int) / 2
theorem hb2_step {b : Int} {i : Nat} (h : b = hb2 i) (hb : 0 < b) : ∃ k, i = k + 1 ∧ b / 2 = hb2 k := by
  unfold hb2 at h ⊢
  cases i with
  | zero => simp at h; omega
  | succ k => exact ⟨k, rfl, by rw [h, Nat.pow_succ]; omega⟩
theorem hb2_end {b : Int} {i : Nat} (h : b = hb2 i) (hb : b ≤ 0) : i = 0 := by
  unfold hb2 at h
  cases i with
  | zero => rfl
  | succ k =>
    have h1 : 0 < 2 ^ k := Nat.two_pow_pos k
    rw [Nat.pow_succ] at h
    omega
theorem hb2_bnd {b : Int} {i : Nat} (h : b = hb2 i) (hi : i ≤ 13) : 0 ≤ b ∧ b ≤ 4096 := by
  unfold hb2 at h
  have h1 : 2 ^ i ≤ 2 ^ 13 := Nat.pow_le_pow_right (by decide) hi
  have h2 : 2 ^ 13 = 8192 := by decide
  generalize 2 ^ i = k at h h1
  omega
theorem top_eq {t x : Int} {j : Nat} (hj : j ≤ 13) (hx : ((2 ^ j : Nat) : Int) ≤ x ∧ x < 2 * ((2 ^ j : Nat) : Int)) (h : p2 t) (h1 : t ≤ x ∨ t = 1) (h2 : x < 2 * t ∨ t = 8192) : t = ((2 ^ j : Nat) : Int) := by
  have h3 := p2_cases h
  rcases (show j = 0 ∨ j = 1 ∨ j = 2 ∨ j = 3 ∨ j = 4 ∨ j = 5 ∨ j = 6 ∨ j = 7 ∨ j = 8 ∨ j = 9 ∨ j = 10 ∨ j = 11 ∨ j = 12 ∨ j = 13 by omega) with rfl | rfl | rfl | rfl | rfl | rfl | rfl | rfl | rfl | rfl | rfl | rfl | rfl | rfl <;> simp at hx ⊢ <;> omega
/-- all that a row of bytes holds fits into bytes -/
def bF (f : Nat → Int32) : Prop := ∀ i, fits .byte (.int (f i)) = true
theorem bF_0 : bF (fun _ => 0) := fun _ => (by decide : fits .byte (.int (0 : Int32)) = true)
theorem bF_upd {f : Nat → Int32} (h : bF f) (k : Nat) (x : Int32) : bF (upd f k (vp_nar .byte x)) := by
  intro i
  by_cases hi : i = k
  · subst hi; rw [pk_us, vp_nar_byte]; exact pk_fb x
  · rw [pk_un hi]; exact h i
theorem bF_updE {f f2 : Nat → Int32} {k : Nat} {x : Int32} (e : upd f k (vp_nar .byte x) = f2) (h : bF f) : bF f2 := e ▸ bF_upd h k x
theorem bF_cpy {f f2 : Nat → Int32} {n : Nat} (h : bF f) (h1 : ∀ j, j < n → f2 j = f j) (h2 : ∀ j, n ≤ j → f2 j = 0) : bF f2 := by
  intro i
  by_cases hi : i < n
  · rw [h1 i hi]; exact h i
  · rw [h2 i (by omega)]; decide
theorem dJ7_rangeCheck_23922_0 : decode cJ7_rangeCheck_23922 0 = .ok (.iload_n 1, 1) := by decide +kernel
theorem dJ7_rangeCheck_23922_1 : decode cJ7_rangeCheck_23922 1 = .ok (.iload_n 2, 1) := by decide +kernel
theorem dJ7_rangeCheck_23922_2 : decode cJ7_rangeCheck_23922 2 = .ok (.if_icmp .le 44, 3) := by decide +kernel
theorem dJ7_rangeCheck_23922_46 : decode cJ7_rangeCheck_23922 46 = .ok (.iload_n 1, 1) := by decide +kernel
theorem dJ7_rangeCheck_23922_47 : decode cJ7_rangeCheck_23922 47 = .ok (.ifCond .ge 12, 3) := by decide +kernel
theorem dJ7_rangeCheck_23922_59 : decode cJ7_rangeCheck_23922 59 = .ok (.iload_n 2, 1) := by decide +kernel
theorem dJ7_rangeCheck_23922_60 : decode cJ7_rangeCheck_23922 60 = .ok (.iload_n 0, 1) := by decide +kernel
theorem dJ7_rangeCheck_23922_61 : decode cJ7_rangeCheck_23922 61 = .ok (.if_icmp .le 12, 3) := by decide +kernel
theorem dJ7_rangeCheck_23922_73 : decode cJ7_rangeCheck_23922 73 = .ok (.return_, 1) := by decide +kernel
abbrev po_c_J7_rangeCheck_23922 (g : GG) (n : Int) (x : Int) (y : Int) : Option Value → va_W → Prop := fun v8 w8 => v8 = none ∧ w8 = []
set_option maxHeartbeats 4000000 in
set_option maxRecDepth 100000 in
theorem c_J7_rangeCheck_23922 (l : Launch) (g : GG) (n : Int) (x : Int) (y : Int) (hp0 : 0 ≤ x ∧ x ≤ y ∧ y ≤ n ∧ n < 100000000) : Ct l g yJ7_rangeCheck_23922 (wM yJ7_rangeCheck_23922 cJ7_rangeCheck_23922 3 none) (rmD 0 0 0) [.int (iI n), .int (iI x), .int (iI y)] [] (po_c_J7_rangeCheck_23922 g n x y) := by
  refine Ct_of (by decide +kernel) (Nat.le_of_ble_eq_true rfl) ?_
  intro p9 e9 s9 m9 ag9 bl9 mt9 c9 A9 fx hr hnm
  refine v_iload_n fx 1 dJ7_rangeCheck_23922_0 rfl rfl ?_
  refine v_iload_n fx 2 dJ7_rangeCheck_23922_1 rfl rfl ?_
  refine v_icmp_le fx 46 dJ7_rangeCheck_23922_2 (by decide) rfl (by omega) (by omega) (fun h_1 => ?_) (fun h0 => absurd h0 (by omega))
  refine v_iload_n fx 1 dJ7_rangeCheck_23922_46 rfl rfl ?_
  refine v_if_ge fx 59 dJ7_rangeCheck_23922_47 (by decide) rfl (by omega) (fun h_2 => ?_) (fun h0 => absurd h0 (by omega))
  refine v_iload_n fx 2 dJ7_rangeCheck_23922_59 rfl rfl ?_
  refine v_iload_n fx 0 dJ7_rangeCheck_23922_60 rfl rfl ?_
  refine v_icmp_le fx 73 dJ7_rangeCheck_23922_61 (by decide) rfl (by omega) (by omega) (fun h_3 => ?_) (fun h0 => absurd h0 (by omega))
  exact v_vret fx [] [] hr dJ7_rangeCheck_23922_73 rfl rfl (nl rfl) (nl rfl) ⟨rfl, rfl⟩
theorem dJ7_fill_eb02e_0 : decode cJ7_fill_eb02e 0 = .ok (.aload_n 0, 1) := by decide +kernel
theorem dJ7_fill_eb02e_1 : decode cJ7_fill_eb02e 1 = .ok (.arraylength, 1) := by decide +kernel
theorem dJ7_fill_eb02e_2 : decode cJ7_fill_eb02e 2 = .ok (.iload_n 1, 1) := by decide +kernel
theorem dJ7_fill_eb02e_3 : decode cJ7_fill_eb02e 3 = .ok (.iload_n 2, 1) := by decide +kernel
theorem dJ7_fill_eb02e_4 : decode cJ7_fill_eb02e 4 = .ok (.invokestatic 13, 3) := by decide +kernel
theorem dJ7_fill_eb02e_7 : decode cJ7_fill_eb02e 7 = .ok (.iload_n 1, 1) := by decide +kernel
theorem dJ7_fill_eb02e_8 : decode cJ7_fill_eb02e 8 = .ok (.istore 4, 2) := by decide +kernel
theorem dJ7_fill_eb02e_10 : decode cJ7_fill_eb02e 10 = .ok (.iload 4, 2) := by decide +kernel
theorem dJ7_fill_eb02e_12 : decode cJ7_fill_eb02e 12 = .ok (.iload_n 2, 1) := by decide +kernel
theorem dJ7_fill_eb02e_13 : decode cJ7_fill_eb02e 13 = .ok (.if_icmp .ge 14, 3) := by decide +kernel
theorem dJ7_fill_eb02e_16 : decode cJ7_fill_eb02e 16 = .ok (.aload_n 0, 1) := by decide +kernel
theorem dJ7_fill_eb02e_17 : decode cJ7_fill_eb02e 17 = .ok (.iload 4, 2) := by decide +kernel
theorem dJ7_fill_eb02e_19 : decode cJ7_fill_eb02e 19 = .ok (.iload_n 3, 1) := by decide +kernel
theorem dJ7_fill_eb02e_20 : decode cJ7_fill_eb02e 20 = .ok (.bastore, 1) := by decide +kernel
theorem dJ7_fill_eb02e_21 : decode cJ7_fill_eb02e 21 = .ok (.iinc 4 1, 3) := by decide +kernel
theorem dJ7_fill_eb02e_24 : decode cJ7_fill_eb02e 24 = .ok (.goto (-14), 3) := by decide +kernel
theorem dJ7_fill_eb02e_27 : decode cJ7_fill_eb02e 27 = .ok (.return_, 1) := by decide +kernel
abbrev po_c_J7_fill_eb02e (g : GG) (h1 : Nat) (n : Nat) (f : Nat → Int32) (x : Int) (y : Int) (v : Int32) : Option Value → va_W → Prop := fun v8 w8 => ∃ f2 : Nat → Int32, v8 = none ∧ w8 = [(h1, aB g n f2)] ∧ (bF f2)
set_option maxHeartbeats 4000000 in
set_option maxRecDepth 100000 in
/-- Arrays.fill of bytes -/
theorem c_J7_fill_eb02e (l : Launch) (g : GG) (h1 : Nat) (n : Nat) (f : Nat → Int32) (x : Int) (y : Int) (v : Int32) (hp0 : 0 ≤ x ∧ x ≤ y ∧ y ≤ (n : Int)) (hp1 : n < 100000000) (hp2 : bF f) : Ct l g yJ7_fill_eb02e (wM yJ7_fill_eb02e cJ7_fill_eb02e 5 none) (rmD 1 0 0) [.ref h1, .int (iI x), .int (iI y), .int v] [(h1, aB g n f)] (po_c_J7_fill_eb02e g h1 n f x y v) := by
  refine Ct_of (by decide +kernel) (Nat.le_of_ble_eq_true rfl) ?_
  intro p9 e9 s9 m9 ag9 bl9 mt9 c9 A9 fx hr hnm
  refine v_aload_n fx 0 dJ7_fill_eb02e_0 rfl rfl ?_
  refine v_alen fx 0 1 (n : Int) dJ7_fill_eb02e_1 rfl rfl rfl rfl ?_
  refine v_iload_n fx 1 dJ7_fill_eb02e_2 rfl rfl ?_
  refine v_iload_n fx 2 dJ7_fill_eb02e_3 rfl rfl ?_
  refine v_callS (As := [.int (iI (n : Int)), .int (iI x), .int (iI y)]) (rest := []) fx [] [0] [] [(h1, aB g n f)] 3 (c_J7_rangeCheck_23922 l g (n : Int) x y (by first | omega | decide | assumption)) dJ7_fill_eb02e_4 k369 k370 k55 k371 ykJ7_rangeCheck_23922 rfl rfl rfl rfl rfl (nl rfl) ⟨nl rfl, nl rfl⟩ ⟨(nl rfl), (nl rfl)⟩ rfl (fun v9 w9 hu => ?_)
  obtain ⟨rfl, rfl⟩ := hu
  refine v_is (wn := [(h1, aB g n f)]) (cn := 0) (sn := 0) (sn2 := []) rfl rfl rfl rfl ?_
  refine v_iload_n fx 1 dJ7_fill_eb02e_7 rfl rfl ?_
  refine v_istore fx [(4, .int (iI x)), (0, .ref h1), (1, .int (iI x)), (2, .int (iI y)), (3, .int v)] dJ7_fill_eb02e_8 (by decide) rfl rfl ?_
  have L10 : ∀ (N : Nat) (i : Int) (f1 : Nat → Int32), (x ≤ i ∧ i ≤ y) → (bF f1) → ((y - i).toNat) < N → V p9 l e9 (rmD 1 0 0) s9 m9 ag9 bl9 mt9 c9 5 g A9 (MQ bl9 (cQ g (po_c_J7_fill_eb02e g h1 n f x y v) A9) ag9 s9 0 0 A9) [(h1, aB g n f1)] 0 0 [(0, .ref h1), (1, .int (iI x)), (2, .int (iI y)), (3, .int v), (4, .int (iI i))] 10 [] := by
    intro N
    induction N with
    | zero => intro i f1 hi10_0 hi10_1 hN; exact absurd hN (Nat.not_lt_zero _)
    | succ N ihL10 =>
      intro i f1 hi10_0 hi10_1 hN10
      refine v_iload fx 4 dJ7_fill_eb02e_10 rfl rfl ?_
      refine v_iload_n fx 2 dJ7_fill_eb02e_12 rfl rfl ?_
      refine v_icmp_ge fx 27 dJ7_fill_eb02e_13 (by decide) rfl (by omega) (by omega) (fun h_1 => ?_) (fun h_1 => ?_)
      ·
        exact v_vret fx [(h1, aB g n f1)] [0] hr dJ7_fill_eb02e_27 rfl rfl (nl rfl) (nl rfl) ⟨f1, rfl, rfl, (by first | omega | rfl | assumption)⟩
      ·
        refine v_aload_n fx 0 dJ7_fill_eb02e_16 rfl rfl ?_
        refine v_iload fx 4 dJ7_fill_eb02e_17 rfl rfl ?_
        refine v_iload_n fx 3 dJ7_fill_eb02e_19 rfl rfl ?_
        obtain ⟨f_2, ef_2⟩ : ∃ f9 : Nat → Int32, upd f1 (i).toNat (vp_nar .byte v) = f9 := ⟨_, rfl⟩
        refine v_bast fx 0 f_2 [(h1, aB g n f_2)] dJ7_fill_eb02e_20 rfl (by omega) (by omega) ef_2 rfl rfl ?_
        refine v_iinc fx 4 (i + 1) [(4, .int (iI (i + 1))), (0, .ref h1), (1, .int (iI x)), (2, .int (iI y)), (3, .int v)] dJ7_fill_eb02e_21 rfl (by omega) (by decide) rfl rfl ?_
        refine v_goto fx 10 dJ7_fill_eb02e_24 (by decide) ?_
        refine v_lv [1, 2, 3, 4, 0] [(0, .ref h1), (1, .int (iI x)), (2, .int (iI y)), (3, .int v), (4, .int (iI (i + 1)))] rfl ?_
        exact ihL10 (i + 1) f_2 (by omega) (by exact bF_updE (by assumption) hi10_1) (by omega)
  refine v_lv [1, 2, 3, 4, 0] [(0, .ref h1), (1, .int (iI x)), (2, .int (iI y)), (3, .int v), (4, .int (iI x))] rfl ?_
  exact L10 _ x f (by omega) (by exact hp2) (Nat.lt_succ_self _)
theorem dJ7_copyOf_9075b_0 : decode cJ7_copyOf_9075b 0 = .ok (.iload_n 1, 1) := by decide +kernel
theorem dJ7_copyOf_9075b_1 : decode cJ7_copyOf_9075b 1 = .ok (.aload_n 0, 1) := by decide +kernel
theorem dJ7_copyOf_9075b_2 : decode cJ7_copyOf_9075b 2 = .ok (.arraylength, 1) := by decide +kernel
theorem dJ7_copyOf_9075b_3 : decode cJ7_copyOf_9075b 3 = .ok (.if_icmp .ne 11, 3) := by decide +kernel
theorem dJ7_copyOf_9075b_14 : decode cJ7_copyOf_9075b 14 = .ok (.iload_n 1, 1) := by decide +kernel
theorem dJ7_copyOf_9075b_15 : decode cJ7_copyOf_9075b 15 = .ok (.newarray .byte, 2) := by decide +kernel
theorem dJ7_copyOf_9075b_17 : decode cJ7_copyOf_9075b 17 = .ok (.astore_n 2, 1) := by decide +kernel
theorem dJ7_copyOf_9075b_18 : decode cJ7_copyOf_9075b 18 = .ok (.aload_n 0, 1) := by decide +kernel
theorem dJ7_copyOf_9075b_19 : decode cJ7_copyOf_9075b 19 = .ok (.iconst 0, 1) := by decide +kernel
theorem dJ7_copyOf_9075b_20 : decode cJ7_copyOf_9075b 20 = .ok (.aload_n 2, 1) := by decide +kernel
theorem dJ7_copyOf_9075b_21 : decode cJ7_copyOf_9075b 21 = .ok (.iconst 0, 1) := by decide +kernel
theorem dJ7_copyOf_9075b_22 : decode cJ7_copyOf_9075b 22 = .ok (.aload_n 0, 1) := by decide +kernel
theorem dJ7_copyOf_9075b_23 : decode cJ7_copyOf_9075b 23 = .ok (.arraylength, 1) := by decide +kernel
theorem dJ7_copyOf_9075b_24 : decode cJ7_copyOf_9075b 24 = .ok (.iload_n 1, 1) := by decide +kernel
theorem dJ7_copyOf_9075b_25 : decode cJ7_copyOf_9075b 25 = .ok (.invokestatic 304, 3) := by decide +kernel
theorem dJ7_copyOf_9075b_28 : decode cJ7_copyOf_9075b 28 = .ok (.invokestatic 150, 3) := by decide +kernel
theorem dJ7_copyOf_9075b_31 : decode cJ7_copyOf_9075b 31 = .ok (.aload_n 2, 1) := by decide +kernel
theorem dJ7_copyOf_9075b_32 : decode cJ7_copyOf_9075b 32 = .ok (.areturn, 1) := by decide +kernel
abbrev po_c_J7_copyOf_9075b (g : GG) (h1 : Nat) (n : Nat) (f : Nat → Int32) (k : Int) : Option Value → va_W → Prop := fun v8 w8 => ∃ h2 : Nat, ∃ f2 : Nat → Int32, v8 = some (.ref h2) ∧ w8 = [(h1, aB g n f), (h2, aB g k.toNat f2)] ∧ (∀ j, j < n → f2 j = f j) ∧ (∀ j, n ≤ j → f2 j = 0)
set_option maxHeartbeats 4000000 in
set_option maxRecDepth 100000 in
/-- Arrays.copyOf of bytes -/
theorem c_J7_copyOf_9075b (l : Launch) (g : GG) (h1 : Nat) (n : Nat) (f : Nat → Int32) (k : Int) (hp0 : (n : Int) < k ∧ k < 50000000) (hp1 : bF f) : Ct l g yJ7_copyOf_9075b (wM yJ7_copyOf_9075b cJ7_copyOf_9075b 3 (some (.array .byte))) (rmD 1 1 k.toNat) [.ref h1, .int (iI k)] [(h1, aB g n f)] (po_c_J7_copyOf_9075b g h1 n f k) := by
  refine Ct_of (by decide +kernel) (Nat.le_of_ble_eq_true rfl) ?_
  intro p9 e9 s9 m9 ag9 bl9 mt9 c9 A9 fx hr hnm
  refine v_iload_n fx 1 dJ7_copyOf_9075b_0 rfl rfl ?_
  refine v_aload_n fx 0 dJ7_copyOf_9075b_1 rfl rfl ?_
  refine v_alen fx 0 1 (n : Int) dJ7_copyOf_9075b_2 rfl rfl rfl rfl ?_
  refine v_icmp_ne fx 14 dJ7_copyOf_9075b_3 (by decide) rfl (by omega) (by omega) (fun h_1 => ?_) (fun h0 => absurd h0 (by omega))
  refine v_iload_n fx 1 dJ7_copyOf_9075b_14 rfl rfl ?_
  refine v_newa fx 1 .byte k.toNat (k.toNat, .inl (fun _ => 0)) 1 k.toNat k134 dJ7_copyOf_9075b_15 rfl rfl rfl (by omega) rfl (fun cA => arr0_byte cA _) (by decide) (nl rfl) (by show k.toNat ≤ k.toNat; omega) rfl (Nat.zero_add _) rfl (fun q_2 => ?_)
  refine v_is (wn := [(h1, aB g n f), (q_2, aB g k.toNat (fun _ => 0))]) (cn := 1) (sn := k.toNat) (sn2 := [.ref q_2]) rfl rfl rfl rfl ?_
  refine v_astore_n fx [(2, .ref q_2), (0, .ref h1), (1, .int (iI k))] dJ7_copyOf_9075b_17 (by decide) rfl rfl ?_
  refine v_aload_n fx 1 dJ7_copyOf_9075b_18 rfl rfl ?_
  refine v_iconst fx dJ7_copyOf_9075b_19 rfl ?_
  refine v_aload_n fx 0 dJ7_copyOf_9075b_20 rfl rfl ?_
  refine v_iconst fx dJ7_copyOf_9075b_21 rfl ?_
  refine v_aload_n fx 1 dJ7_copyOf_9075b_22 rfl rfl ?_
  refine v_alen fx 0 1 (n : Int) dJ7_copyOf_9075b_23 rfl rfl rfl rfl ?_
  refine v_iload_n fx 2 dJ7_copyOf_9075b_24 rfl rfl ?_
  refine v_mmin fx ((n : Int)) (by omega) (by omega) (if_neg (by omega)) k232 k80 k47 k81 dJ7_copyOf_9075b_25 (nl rfl) (nl rfl) (nl rfl) (nl rfl) (by show k.toNat ≤ k.toNat; omega) rfl ?_
  obtain ⟨f_3, ef_3⟩ : ∃ f9 : Nat → Int32, va_cpy f (fun _ => 0) 0 0 ((n : Int)).toNat = f9 := ⟨_, rfl⟩
  refine v_copy fx 0 1 1 [(h1, aB g n f), (q_2, aB g k.toNat f_3)] k233 k235 k234 k56 rfl rfl rfl rfl (by omega) (fun i _ => hp1 i) dJ7_copyOf_9075b_28 (nl rfl) (nl rfl) (nl rfl) (by rw [ef_3]; rfl) rfl ?_
  refine v_aload_n fx 0 dJ7_copyOf_9075b_31 rfl rfl ?_
  exact v_aret fx [(h1, aB g n f), (q_2, aB g k.toNat f_3)] [0, 1] hr (Or.inr ⟨_, rfl⟩) dJ7_copyOf_9075b_32 rfl rfl (nl rfl) (by show k.toNat ≤ k.toNat; omega) ⟨q_2, f_3, rfl, rfl, (by exact (cpy_lt (by assumption)).1), (by exact (cpy_lt (by assumption)).2)⟩
theorem dX0_count_0 : decode cX0_count 0 = .ok (.aload_n 0, 1) := by decide +kernel
theorem dX0_count_1 : decode cX0_count 1 = .ok (.getfield 29, 3) := by decide +kernel
theorem dX0_count_4 : decode cX0_count 4 = .ok (.ireturn, 1) := by decide +kernel
abbrev po_c_X0_count (g : GG) (h0 : Nat) (ba : Nat) (c : Int) (pl : Int) (tu : Int) : Option Value → va_W → Prop := fun v8 w8 => v8 = some (.int (iI c)) ∧ w8 = [(h0, ob 0 [.ref ba, .int (iI c), .int (iI pl), .int (iI tu)])]
set_option maxHeartbeats 4000000 in
set_option maxRecDepth 100000 in
theorem c_X0_count (l : Launch) (g : GG) (h0 : Nat) (ba : Nat) (c : Int) (pl : Int) (tu : Int) : Ct l g yX0_count (wM yX0_count cX0_count 1 (some .int)) (rmD 0 0 0) [.ref h0] [(h0, ob 0 [.ref ba, .int (iI c), .int (iI pl), .int (iI tu)])] (po_c_X0_count g h0 ba c pl tu) := by
  refine Ct_of (by decide +kernel) (Nat.le_of_ble_eq_true rfl) ?_
  intro p9 e9 s9 m9 ag9 bl9 mt9 c9 A9 fx hr hnm
  refine v_aload_n fx 0 dX0_count_0 rfl rfl ?_
  refine v_get fx 0 1 inX0 k122 dX0_count_1 rfl rfl (by decide) rfl rfl rfl ?_
  exact v_iret fx [(h0, ob 0 [.ref ba, .int (iI c), .int (iI pl), .int (iI tu)])] [0] hr dX0_count_4 rfl rfl (nl rfl) (nl rfl) ⟨rfl, rfl⟩
theorem dX0_byteCount_0 : decode cX0_byteCount 0 = .ok (.aload_n 0, 1) := by decide +kernel
theorem dX0_byteCount_1 : decode cX0_byteCount 1 = .ok (.getfield 29, 3) := by decide +kernel
theorem dX0_byteCount_4 : decode cX0_byteCount 4 = .ok (.bipush 7, 2) := by decide +kernel
theorem dX0_byteCount_6 : decode cX0_byteCount 6 = .ok (.iadd, 1) := by decide +kernel
theorem dX0_byteCount_7 : decode cX0_byteCount 7 = .ok (.iconst 3, 1) := by decide +kernel
theorem dX0_byteCount_8 : decode cX0_byteCount 8 = .ok (.ishr, 1) := by decide +kernel
theorem dX0_byteCount_9 : decode cX0_byteCount 9 = .ok (.ireturn, 1) := by decide +kernel
abbrev po_c_X0_byteCount (g : GG) (h0 : Nat) (ba : Nat) (c : Int) (pl : Int) (tu : Int) : Option Value → va_W → Prop := fun v8 w8 => v8 = some (.int (iI ((c + 7) / 8))) ∧ w8 = [(h0, ob 0 [.ref ba, .int (iI c), .int (iI pl), .int (iI tu)])]
set_option maxHeartbeats 4000000 in
set_option maxRecDepth 100000 in
theorem c_X0_byteCount (l : Launch) (g : GG) (h0 : Nat) (ba : Nat) (c : Int) (pl : Int) (tu : Int) (hp0 : 0 ≤ c ∧ c < 100000000) : Ct l g yX0_byteCount (wM yX0_byteCount cX0_byteCount 1 (some .int)) (rmD 0 0 0) [.ref h0] [(h0, ob 0 [.ref ba, .int (iI c), .int (iI pl), .int (iI tu)])] (po_c_X0_byteCount g h0 ba c pl tu) := by
  refine Ct_of (by decide +kernel) (Nat.le_of_ble_eq_true rfl) ?_
  intro p9 e9 s9 m9 ag9 bl9 mt9 c9 A9 fx hr hnm
  refine v_aload_n fx 0 dX0_byteCount_0 rfl rfl ?_
  refine v_get fx 0 1 inX0 k122 dX0_byteCount_1 rfl rfl (by decide) rfl rfl rfl ?_
  refine v_bipush fx dX0_byteCount_4 (by decide +kernel) rfl ?_
  refine v_iadd fx (c + 7) dX0_byteCount_6 (by rfl) rfl ?_
  refine v_iconst fx dX0_byteCount_7 rfl ?_
  refine v_ishr fx (iI ((c + 7) / 8)) dX0_byteCount_8 (iI_shr (k := 3) (by omega) _ (by decide)) rfl ?_
  exact v_iret fx [(h0, ob 0 [.ref ba, .int (iI c), .int (iI pl), .int (iI tu)])] [0] hr dX0_byteCount_9 rfl rfl (nl rfl) (nl rfl) ⟨rfl, rfl⟩
theorem dX0_left_0 : decode cX0_left 0 = .ok (.aload_n 0, 1) := by decide +kernel
theorem dX0_left_1 : decode cX0_left 1 = .ok (.getfield 29, 3) := by decide +kernel
theorem dX0_left_4 : decode cX0_left 4 = .ok (.aload_n 0, 1) := by decide +kernel
theorem dX0_left_5 : decode cX0_left 5 = .ok (.getfield 32, 3) := by decide +kernel
theorem dX0_left_8 : decode cX0_left 8 = .ok (.isub, 1) := by decide +kernel
theorem dX0_left_9 : decode cX0_left 9 = .ok (.ireturn, 1) := by decide +kernel
abbrev po_c_X0_left (g : GG) (h0 : Nat) (ba : Nat) (c : Int) (pl : Int) (tu : Int) : Option Value → va_W → Prop := fun v8 w8 => v8 = some (.int (iI (c - pl))) ∧ w8 = [(h0, ob 0 [.ref ba, .int (iI c), .int (iI pl), .int (iI tu)])]
set_option maxHeartbeats 4000000 in
set_option maxRecDepth 100000 in
theorem c_X0_left (l : Launch) (g : GG) (h0 : Nat) (ba : Nat) (c : Int) (pl : Int) (tu : Int) : Ct l g yX0_left (wM yX0_left cX0_left 1 (some .int)) (rmD 0 0 0) [.ref h0] [(h0, ob 0 [.ref ba, .int (iI c), .int (iI pl), .int (iI tu)])] (po_c_X0_left g h0 ba c pl tu) := by
  refine Ct_of (by decide +kernel) (Nat.le_of_ble_eq_true rfl) ?_
  intro p9 e9 s9 m9 ag9 bl9 mt9 c9 A9 fx hr hnm
  refine v_aload_n fx 0 dX0_left_0 rfl rfl ?_
  refine v_get fx 0 1 inX0 k122 dX0_left_1 rfl rfl (by decide) rfl rfl rfl ?_
  refine v_aload_n fx 0 dX0_left_4 rfl rfl ?_
  refine v_get fx 0 2 inX0 k123 dX0_left_5 rfl rfl (by decide) rfl rfl rfl ?_
  refine v_isub fx (c - pl) dX0_left_8 (by rfl) rfl ?_
  exact v_iret fx [(h0, ob 0 [.ref ba, .int (iI c), .int (iI pl), .int (iI tu)])] [0] hr dX0_left_9 rfl rfl (nl rfl) (nl rfl) ⟨rfl, rfl⟩
theorem dX0_beginReading_0 : decode cX0_beginReading 0 = .ok (.aload_n 0, 1) := by decide +kernel
theorem dX0_beginReading_1 : decode cX0_beginReading 1 = .ok (.iconst 0, 1) := by decide +kernel
theorem dX0_beginReading_2 : decode cX0_beginReading 2 = .ok (.putfield 32, 3) := by decide +kernel
theorem dX0_beginReading_5 : decode cX0_beginReading 5 = .ok (.return_, 1) := by decide +kernel
abbrev po_c_X0_beginReading (g : GG) (h0 : Nat) (ba : Nat) (c : Int) (pl : Int) (tu : Int) : Option Value → va_W → Prop := fun v8 w8 => v8 = none ∧ w8 = [(h0, ob 0 [.ref ba, .int (iI c), .int (iI 0), .int (iI tu)])]
set_option maxHeartbeats 4000000 in
set_option maxRecDepth 100000 in
theorem c_X0_beginReading (l : Launch) (g : GG) (h0 : Nat) (ba : Nat) (c : Int) (pl : Int) (tu : Int) : Ct l g yX0_beginReading (wM yX0_beginReading cX0_beginReading 1 none) (rmD 0 0 0) [.ref h0] [(h0, ob 0 [.ref ba, .int (iI c), .int (iI pl), .int (iI tu)])] (po_c_X0_beginReading g h0 ba c pl tu) := by
  refine Ct_of (by decide +kernel) (Nat.le_of_ble_eq_true rfl) ?_
  intro p9 e9 s9 m9 ag9 bl9 mt9 c9 A9 fx hr hnm
  refine v_aload_n fx 0 dX0_beginReading_0 rfl rfl ?_
  refine v_iconst fx dX0_beginReading_1 rfl ?_
  refine v_put fx 0 2 [(h0, ob 0 [.ref ba, .int (iI c), .int (iI 0), .int (iI tu)])] inX0 tyX0_ok nmX0 k123 dX0_beginReading_2 rfl rfl (by decide) rfl rfl rfl rfl (nl rfl) rfl rfl ?_
  exact v_vret fx [(h0, ob 0 [.ref ba, .int (iI c), .int (iI 0), .int (iI tu)])] [0] hr dX0_beginReading_5 rfl rfl (nl rfl) (nl rfl) ⟨rfl, rfl⟩
theorem dX0_skip_0 : decode cX0_skip 0 = .ok (.aload_n 0, 1) := by decide +kernel
theorem dX0_skip_1 : decode cX0_skip 1 = .ok (.dup, 1) := by decide +kernel
theorem dX0_skip_2 : decode cX0_skip 2 = .ok (.getfield 32, 3) := by decide +kernel
theorem dX0_skip_5 : decode cX0_skip 5 = .ok (.iload_n 1, 1) := by decide +kernel
theorem dX0_skip_6 : decode cX0_skip 6 = .ok (.iadd, 1) := by decide +kernel
theorem dX0_skip_7 : decode cX0_skip 7 = .ok (.putfield 32, 3) := by decide +kernel
theorem dX0_skip_10 : decode cX0_skip 10 = .ok (.return_, 1) := by decide +kernel
abbrev po_c_X0_skip (g : GG) (h0 : Nat) (ba : Nat) (c : Int) (pl : Int) (tu : Int) (x : Int) : Option Value → va_W → Prop := fun v8 w8 => v8 = none ∧ w8 = [(h0, ob 0 [.ref ba, .int (iI c), .int (iI (pl + x)), .int (iI tu)])]
set_option maxHeartbeats 4000000 in
set_option maxRecDepth 100000 in
theorem c_X0_skip (l : Launch) (g : GG) (h0 : Nat) (ba : Nat) (c : Int) (pl : Int) (tu : Int) (x : Int) : Ct l g yX0_skip (wM yX0_skip cX0_skip 2 none) (rmD 0 0 0) [.ref h0, .int (iI x)] [(h0, ob 0 [.ref ba, .int (iI c), .int (iI pl), .int (iI tu)])] (po_c_X0_skip g h0 ba c pl tu x) := by
  refine Ct_of (by decide +kernel) (Nat.le_of_ble_eq_true rfl) ?_
  intro p9 e9 s9 m9 ag9 bl9 mt9 c9 A9 fx hr hnm
  refine v_aload_n fx 0 dX0_skip_0 rfl rfl ?_
  refine v_dup fx dX0_skip_1 rfl rfl ?_
  refine v_get fx 0 2 inX0 k123 dX0_skip_2 rfl rfl (by decide) rfl rfl rfl ?_
  refine v_iload_n fx 1 dX0_skip_5 rfl rfl ?_
  refine v_iadd fx (pl + x) dX0_skip_6 (by rfl) rfl ?_
  refine v_put fx 0 2 [(h0, ob 0 [.ref ba, .int (iI c), .int (iI (pl + x)), .int (iI tu)])] inX0 tyX0_ok nmX0 k123 dX0_skip_7 rfl rfl (by decide) rfl rfl rfl rfl (nl rfl) rfl rfl ?_
  exact v_vret fx [(h0, ob 0 [.ref ba, .int (iI c), .int (iI (pl + x)), .int (iI tu)])] [0] hr dX0_skip_10 rfl rfl (nl rfl) (nl rfl) ⟨rfl, rfl⟩
theorem dX0_fillLastByte_0 : decode cX0_fillLastByte 0 = .ok (.aload_n 0, 1) := by decide +kernel
theorem dX0_fillLastByte_1 : decode cX0_fillLastByte 1 = .ok (.bipush 8, 2) := by decide +kernel
theorem dX0_fillLastByte_3 : decode cX0_fillLastByte 3 = .ok (.aload_n 0, 1) := by decide +kernel
theorem dX0_fillLastByte_4 : decode cX0_fillLastByte 4 = .ok (.invokevirtual 19, 3) := by decide +kernel
theorem dX0_fillLastByte_7 : decode cX0_fillLastByte 7 = .ok (.imul, 1) := by decide +kernel
theorem dX0_fillLastByte_8 : decode cX0_fillLastByte 8 = .ok (.putfield 29, 3) := by decide +kernel
theorem dX0_fillLastByte_11 : decode cX0_fillLastByte 11 = .ok (.return_, 1) := by decide +kernel
abbrev po_c_X0_fillLastByte (g : GG) (h0 : Nat) (ba : Nat) (c : Int) (pl : Int) (tu : Int) : Option Value → va_W → Prop := fun v8 w8 => v8 = none ∧ w8 = [(h0, ob 0 [.ref ba, .int (iI (8 * ((c + 7) / 8))), .int (iI pl), .int (iI tu)])]
set_option maxHeartbeats 4000000 in
set_option maxRecDepth 100000 in
theorem c_X0_fillLastByte (l : Launch) (g : GG) (h0 : Nat) (ba : Nat) (c : Int) (pl : Int) (tu : Int) (hp0 : 0 ≤ c ∧ c < 100000000) : Ct l g yX0_fillLastByte (wM yX0_fillLastByte cX0_fillLastByte 1 none) (rmD 1 0 0) [.ref h0] [(h0, ob 0 [.ref ba, .int (iI c), .int (iI pl), .int (iI tu)])] (po_c_X0_fillLastByte g h0 ba c pl tu) := by
  refine Ct_of (by decide +kernel) (Nat.le_of_ble_eq_true rfl) ?_
  intro p9 e9 s9 m9 ag9 bl9 mt9 c9 A9 fx hr hnm
  refine v_aload_n fx 0 dX0_fillLastByte_0 rfl rfl ?_
  refine v_bipush fx dX0_fillLastByte_1 (by decide +kernel) rfl ?_
  refine v_aload_n fx 0 dX0_fillLastByte_3 rfl rfl ?_
  refine v_callV (As := []) (rest := [.int (iI 8), .ref h0]) fx [0] [] [(h0, ob 0 [.ref ba, .int (iI c), .int (iI pl), .int (iI tu)])] [] 0 0 (c_X0_byteCount l g h0 ba c pl tu (by first | omega | decide | assumption)) dX0_fillLastByte_4 k362 k363 k364 k50 k365 ykX0_byteCount rfl rfl rfl rfl rfl rfl rfl rfl (nl rfl) ⟨nl rfl, nl rfl⟩ ⟨(nl rfl), (nl rfl)⟩ rfl (fun v9 w9 hu => ?_)
  obtain ⟨rfl, rfl⟩ := hu
  refine v_is (wn := [(h0, ob 0 [.ref ba, .int (iI c), .int (iI pl), .int (iI tu)])]) (cn := 0) (sn := 0) (sn2 := [.int (iI ((c + 7) / 8)), .int (iI 8), .ref h0]) rfl rfl rfl rfl ?_
  refine v_imul fx (8 * ((c + 7) / 8)) dX0_fillLastByte_7 (by rfl) rfl ?_
  refine v_put fx 0 1 [(h0, ob 0 [.ref ba, .int (iI (8 * ((c + 7) / 8))), .int (iI pl), .int (iI tu)])] inX0 tyX0_ok nmX0 k122 dX0_fillLastByte_8 rfl rfl (by decide) rfl rfl rfl rfl (nl rfl) rfl rfl ?_
  exact v_vret fx [(h0, ob 0 [.ref ba, .int (iI (8 * ((c + 7) / 8))), .int (iI pl), .int (iI tu)])] [0] hr dX0_fillLastByte_11 rfl rfl (nl rfl) (nl rfl) ⟨rfl, rfl⟩
theorem dX0_setLowestFirst_0 : decode cX0_setLowestFirst 0 = .ok (.aload_n 0, 1) := by decide +kernel
theorem dX0_setLowestFirst_1 : decode cX0_setLowestFirst 1 = .ok (.iload_n 1, 1) := by decide +kernel
theorem dX0_setLowestFirst_2 : decode cX0_setLowestFirst 2 = .ok (.ifCond .eq 7, 3) := by decide +kernel
theorem dX0_setLowestFirst_5 : decode cX0_setLowestFirst 5 = .ok (.iconst 0, 1) := by decide +kernel
theorem dX0_setLowestFirst_6 : decode cX0_setLowestFirst 6 = .ok (.goto 5, 3) := by decide +kernel
theorem dX0_setLowestFirst_9 : decode cX0_setLowestFirst 9 = .ok (.bipush 7, 2) := by decide +kernel
theorem dX0_setLowestFirst_11 : decode cX0_setLowestFirst 11 = .ok (.putfield 15, 3) := by decide +kernel
theorem dX0_setLowestFirst_14 : decode cX0_setLowestFirst 14 = .ok (.return_, 1) := by decide +kernel
abbrev po_c_X0_setLowestFirst (g : GG) (h0 : Nat) (ba : Nat) (c : Int) (pl : Int) (tu : Int) (x : Int) : Option Value → va_W → Prop := fun v8 w8 => ∃ t2 : Int, v8 = none ∧ w8 = [(h0, ob 0 [.ref ba, .int (iI c), .int (iI pl), .int (iI t2)])] ∧ (t2 = 7 - 7 * x)
set_option maxHeartbeats 4000000 in
set_option maxRecDepth 100000 in
theorem c_X0_setLowestFirst (l : Launch) (g : GG) (h0 : Nat) (ba : Nat) (c : Int) (pl : Int) (tu : Int) (x : Int) (hp0 : 0 ≤ x ∧ x ≤ 1) : Ct l g yX0_setLowestFirst (wM yX0_setLowestFirst cX0_setLowestFirst 2 none) (rmD 0 0 0) [.ref h0, .int (iI x)] [(h0, ob 0 [.ref ba, .int (iI c), .int (iI pl), .int (iI tu)])] (po_c_X0_setLowestFirst g h0 ba c pl tu x) := by
  refine Ct_of (by decide +kernel) (Nat.le_of_ble_eq_true rfl) ?_
  intro p9 e9 s9 m9 ag9 bl9 mt9 c9 A9 fx hr hnm
  refine v_aload_n fx 0 dX0_setLowestFirst_0 rfl rfl ?_
  refine v_iload_n fx 1 dX0_setLowestFirst_1 rfl rfl ?_
  refine v_if_eq fx 9 dX0_setLowestFirst_2 (by decide) rfl (by omega) (fun h_1 => ?_) (fun h_1 => ?_)
  ·
    refine v_bipush fx dX0_setLowestFirst_9 (by decide +kernel) rfl ?_
    refine v_put fx 0 3 [(h0, ob 0 [.ref ba, .int (iI c), .int (iI pl), .int (iI 7)])] inX0 tyX0_ok nmX0 k124 dX0_setLowestFirst_11 rfl rfl (by decide) rfl rfl rfl rfl (nl rfl) rfl rfl ?_
    exact v_vret fx [(h0, ob 0 [.ref ba, .int (iI c), .int (iI pl), .int (iI 7)])] [0] hr dX0_setLowestFirst_14 rfl rfl (nl rfl) (nl rfl) ⟨7, rfl, rfl, (by first | omega | rfl | assumption)⟩
  ·
    refine v_iconst fx dX0_setLowestFirst_5 rfl ?_
    refine v_goto fx 11 dX0_setLowestFirst_6 (by decide) ?_
    refine v_put fx 0 3 [(h0, ob 0 [.ref ba, .int (iI c), .int (iI pl), .int (iI 0)])] inX0 tyX0_ok nmX0 k124 dX0_setLowestFirst_11 rfl rfl (by decide) rfl rfl rfl rfl (nl rfl) rfl rfl ?_
    exact v_vret fx [(h0, ob 0 [.ref ba, .int (iI c), .int (iI pl), .int (iI 0)])] [0] hr dX0_setLowestFirst_14 rfl rfl (nl rfl) (nl rfl) ⟨0, rfl, rfl, (by first | omega | rfl | assumption)⟩
theorem dX0_removeAll_0 : decode cX0_removeAll 0 = .ok (.aload_n 0, 1) := by decide +kernel
theorem dX0_removeAll_1 : decode cX0_removeAll 1 = .ok (.getfield 9, 3) := by decide +kernel
theorem dX0_removeAll_4 : decode cX0_removeAll 4 = .ok (.iconst 0, 1) := by decide +kernel
theorem dX0_removeAll_5 : decode cX0_removeAll 5 = .ok (.aload_n 0, 1) := by decide +kernel
theorem dX0_removeAll_6 : decode cX0_removeAll 6 = .ok (.invokevirtual 19, 3) := by decide +kernel
theorem dX0_removeAll_9 : decode cX0_removeAll 9 = .ok (.iconst 0, 1) := by decide +kernel
theorem dX0_removeAll_10 : decode cX0_removeAll 10 = .ok (.invokestatic 23, 3) := by decide +kernel
theorem dX0_removeAll_13 : decode cX0_removeAll 13 = .ok (.aload_n 0, 1) := by decide +kernel
theorem dX0_removeAll_14 : decode cX0_removeAll 14 = .ok (.iconst 0, 1) := by decide +kernel
theorem dX0_removeAll_15 : decode cX0_removeAll 15 = .ok (.putfield 29, 3) := by decide +kernel
theorem dX0_removeAll_18 : decode cX0_removeAll 18 = .ok (.aload_n 0, 1) := by decide +kernel
theorem dX0_removeAll_19 : decode cX0_removeAll 19 = .ok (.iconst 0, 1) := by decide +kernel
theorem dX0_removeAll_20 : decode cX0_removeAll 20 = .ok (.putfield 32, 3) := by decide +kernel
theorem dX0_removeAll_23 : decode cX0_removeAll 23 = .ok (.return_, 1) := by decide +kernel
abbrev po_c_X0_removeAll (g : GG) (h0 : Nat) (ba : Nat) (n : Nat) (f : Nat → Int32) (c : Int) (pl : Int) (tu : Int) : Option Value → va_W → Prop := fun v8 w8 => ∃ f2 : Nat → Int32, v8 = none ∧ w8 = [(h0, ob 0 [.ref ba, .int (iI 0), .int (iI 0), .int (iI tu)]), (ba, aB g n f2)] ∧ (bF f2)
set_option maxHeartbeats 4000000 in
set_option maxRecDepth 100000 in
theorem c_X0_removeAll (l : Launch) (g : GG) (h0 : Nat) (ba : Nat) (n : Nat) (f : Nat → Int32) (c : Int) (pl : Int) (tu : Int) (hp0 : 0 ≤ c ∧ c ≤ 8 * (n : Int) ∧ 64 ≤ n ∧ n ≤ 130000) (hp1 : bF f) : Ct l g yX0_removeAll (wM yX0_removeAll cX0_removeAll 1 none) (rmD 2 0 0) [.ref h0] [(h0, ob 0 [.ref ba, .int (iI c), .int (iI pl), .int (iI tu)]), (ba, aB g n f)] (po_c_X0_removeAll g h0 ba n f c pl tu) := by
  refine Ct_of (by decide +kernel) (Nat.le_of_ble_eq_true rfl) ?_
  intro p9 e9 s9 m9 ag9 bl9 mt9 c9 A9 fx hr hnm
  refine v_aload_n fx 0 dX0_removeAll_0 rfl rfl ?_
  refine v_get fx 0 0 inX0 k121 dX0_removeAll_1 rfl rfl (by decide) rfl rfl rfl ?_
  refine v_iconst fx dX0_removeAll_4 rfl ?_
  refine v_aload_n fx 0 dX0_removeAll_5 rfl rfl ?_
  refine v_callV (As := []) (rest := [.int (iI 0), .ref ba]) fx [0] [1] [(h0, ob 0 [.ref ba, .int (iI c), .int (iI pl), .int (iI tu)])] [(ba, aB g n f)] 0 0 (c_X0_byteCount l g h0 ba c pl tu (by first | omega | decide | assumption)) dX0_removeAll_6 k362 k363 k364 k50 k365 ykX0_byteCount rfl rfl rfl rfl rfl rfl rfl rfl (nl rfl) ⟨nl rfl, nl rfl⟩ ⟨(nl rfl), (nl rfl)⟩ rfl (fun v9 w9 hu => ?_)
  obtain ⟨rfl, rfl⟩ := hu
  refine v_is (wn := [(ba, aB g n f), (h0, ob 0 [.ref ba, .int (iI c), .int (iI pl), .int (iI tu)])]) (cn := 0) (sn := 0) (sn2 := [.int (iI ((c + 7) / 8)), .int (iI 0), .ref ba]) rfl rfl rfl rfl ?_
  refine v_iconst fx dX0_removeAll_9 rfl ?_
  refine v_callS (As := [.ref ba, .int (iI 0), .int (iI ((c + 7) / 8)), .int (iI 0)]) (rest := []) fx [0] [1] [(ba, aB g n f)] [(h0, ob 0 [.ref ba, .int (iI c), .int (iI pl), .int (iI tu)])] 4 (c_J7_fill_eb02e l g ba n f 0 ((c + 7) / 8) (iI 0) (by first | omega | decide | assumption) (by first | omega | decide | assumption) (by first | omega | decide | assumption)) dX0_removeAll_10 k366 k367 k55 k368 ykJ7_fill_eb02e rfl rfl rfl rfl rfl (nl rfl) ⟨nl rfl, nl rfl⟩ ⟨(nl rfl), (nl rfl)⟩ rfl (fun v9 w9 hu => ?_)
  obtain ⟨f2_1, rfl, rfl, u_2⟩ := hu
  refine v_is (wn := [(h0, ob 0 [.ref ba, .int (iI c), .int (iI pl), .int (iI tu)]), (ba, aB g n f2_1)]) (cn := 0) (sn := 0) (sn2 := []) rfl rfl rfl rfl ?_
  refine v_aload_n fx 0 dX0_removeAll_13 rfl rfl ?_
  refine v_iconst fx dX0_removeAll_14 rfl ?_
  refine v_put fx 0 1 [(h0, ob 0 [.ref ba, .int (iI 0), .int (iI pl), .int (iI tu)]), (ba, aB g n f2_1)] inX0 tyX0_ok nmX0 k122 dX0_removeAll_15 rfl rfl (by decide) rfl rfl rfl rfl (nl rfl) rfl rfl ?_
  refine v_aload_n fx 0 dX0_removeAll_18 rfl rfl ?_
  refine v_iconst fx dX0_removeAll_19 rfl ?_
  refine v_put fx 0 2 [(h0, ob 0 [.ref ba, .int (iI 0), .int (iI 0), .int (iI tu)]), (ba, aB g n f2_1)] inX0 tyX0_ok nmX0 k123 dX0_removeAll_20 rfl rfl (by decide) rfl rfl rfl rfl (nl rfl) rfl rfl ?_
  exact v_vret fx [(h0, ob 0 [.ref ba, .int (iI 0), .int (iI 0), .int (iI tu)]), (ba, aB g n f2_1)] [0, 1] hr dX0_removeAll_23 rfl rfl (nl rfl) (nl rfl) ⟨f2_1, rfl, rfl, (by assumption)⟩
theorem dX0_byteOf_0 : decode cX0_byteOf 0 = .ok (.iload_n 1, 1) := by decide +kernel
theorem dX0_byteOf_1 : decode cX0_byteOf 1 = .ok (.ifCond .lt 24, 3) := by decide +kernel
theorem dX0_byteOf_4 : decode cX0_byteOf 4 = .ok (.iload_n 1, 1) := by decide +kernel
theorem dX0_byteOf_5 : decode cX0_byteOf 5 = .ok (.aload_n 0, 1) := by decide +kernel
theorem dX0_byteOf_6 : decode cX0_byteOf 6 = .ok (.invokevirtual 19, 3) := by decide +kernel
theorem dX0_byteOf_9 : decode cX0_byteOf 9 = .ok (.if_icmp .ge 16, 3) := by decide +kernel
theorem dX0_byteOf_12 : decode cX0_byteOf 12 = .ok (.aload_n 0, 1) := by decide +kernel
theorem dX0_byteOf_13 : decode cX0_byteOf 13 = .ok (.getfield 9, 3) := by decide +kernel
theorem dX0_byteOf_16 : decode cX0_byteOf 16 = .ok (.iload_n 1, 1) := by decide +kernel
theorem dX0_byteOf_17 : decode cX0_byteOf 17 = .ok (.baload, 1) := by decide +kernel
theorem dX0_byteOf_18 : decode cX0_byteOf 18 = .ok (.sipush 255, 3) := by decide +kernel
theorem dX0_byteOf_21 : decode cX0_byteOf 21 = .ok (.iand, 1) := by decide +kernel
theorem dX0_byteOf_22 : decode cX0_byteOf 22 = .ok (.goto 4, 3) := by decide +kernel
theorem dX0_byteOf_25 : decode cX0_byteOf 25 = .ok (.iconst (-1), 1) := by decide +kernel
theorem dX0_byteOf_26 : decode cX0_byteOf 26 = .ok (.ireturn, 1) := by decide +kernel
abbrev po_c_X0_byteOf (g : GG) (h0 : Nat) (ba : Nat) (n : Nat) (f : Nat → Int32) (c : Int) (pl : Int) (tu : Int) (x : Int) : Option Value → va_W → Prop := fun v8 w8 => ∃ r : Int32, v8 = some (.int r) ∧ w8 = [(h0, ob 0 [.ref ba, .int (iI c), .int (iI pl), .int (iI tu)]), (ba, aB g n f)]
set_option maxHeartbeats 4000000 in
set_option maxRecDepth 100000 in
theorem c_X0_byteOf (l : Launch) (g : GG) (h0 : Nat) (ba : Nat) (n : Nat) (f : Nat → Int32) (c : Int) (pl : Int) (tu : Int) (x : Int) (hp0 : 0 ≤ c ∧ c ≤ 8 * (n : Int) ∧ 64 ≤ n ∧ n ≤ 130000) (hp1 : bF f) (hp2 : -2147483648 ≤ x ∧ x < 2147483648) : Ct l g yX0_byteOf (wM yX0_byteOf cX0_byteOf 2 (some .int)) (rmD 1 0 0) [.ref h0, .int (iI x)] [(h0, ob 0 [.ref ba, .int (iI c), .int (iI pl), .int (iI tu)]), (ba, aB g n f)] (po_c_X0_byteOf g h0 ba n f c pl tu x) := by
  refine Ct_of (by decide +kernel) (Nat.le_of_ble_eq_true rfl) ?_
  intro p9 e9 s9 m9 ag9 bl9 mt9 c9 A9 fx hr hnm
  refine v_iload_n fx 1 dX0_byteOf_0 rfl rfl ?_
  refine v_if_lt fx 25 dX0_byteOf_1 (by decide) rfl (by omega) (fun h_1 => ?_) (fun h_1 => ?_)
  ·
    refine v_iconst fx dX0_byteOf_25 rfl ?_
    exact v_iret fx [(h0, ob 0 [.ref ba, .int (iI c), .int (iI pl), .int (iI tu)]), (ba, aB g n f)] [0, 1] hr dX0_byteOf_26 rfl rfl (nl rfl) (nl rfl) ⟨(iI (-1)), rfl, rfl⟩
  ·
    refine v_iload_n fx 1 dX0_byteOf_4 rfl rfl ?_
    refine v_aload_n fx 0 dX0_byteOf_5 rfl rfl ?_
    refine v_callV (As := []) (rest := [.int (iI x)]) fx [0] [1] [(h0, ob 0 [.ref ba, .int (iI c), .int (iI pl), .int (iI tu)])] [(ba, aB g n f)] 0 0 (c_X0_byteCount l g h0 ba c pl tu (by first | omega | decide | assumption)) dX0_byteOf_6 k362 k363 k364 k50 k365 ykX0_byteCount rfl rfl rfl rfl rfl rfl rfl rfl (nl rfl) ⟨nl rfl, nl rfl⟩ ⟨(nl rfl), (nl rfl)⟩ rfl (fun v9 w9 hu => ?_)
    obtain ⟨rfl, rfl⟩ := hu
    refine v_is (wn := [(ba, aB g n f), (h0, ob 0 [.ref ba, .int (iI c), .int (iI pl), .int (iI tu)])]) (cn := 0) (sn := 0) (sn2 := [.int (iI ((c + 7) / 8)), .int (iI x)]) rfl rfl rfl rfl ?_
    refine v_icmp_ge fx 25 dX0_byteOf_9 (by decide) rfl (by omega) (by omega) (fun h_2 => ?_) (fun h_2 => ?_)
    ·
      refine v_iconst fx dX0_byteOf_25 rfl ?_
      exact v_iret fx [(h0, ob 0 [.ref ba, .int (iI c), .int (iI pl), .int (iI tu)]), (ba, aB g n f)] [1, 0] hr dX0_byteOf_26 rfl rfl (nl rfl) (nl rfl) ⟨(iI (-1)), rfl, rfl⟩
    ·
      refine v_aload_n fx 0 dX0_byteOf_12 rfl rfl ?_
      refine v_get fx 1 0 inX0 k121 dX0_byteOf_13 rfl rfl (by decide) rfl rfl rfl ?_
      refine v_iload_n fx 1 dX0_byteOf_16 rfl rfl ?_
      refine v_bald fx 0 dX0_byteOf_17 rfl (by omega) (by omega) rfl ?_
      refine v_sipush fx dX0_byteOf_18 (by decide +kernel) rfl ?_
      obtain ⟨t_3, et_3⟩ : ∃ x9 : Int32, (f (x).toNat) &&& (iI 255) = x9 := ⟨_, rfl⟩
      refine v_iand fx t_3 dX0_byteOf_21 et_3 rfl ?_
      refine v_goto fx 26 dX0_byteOf_22 (by decide) ?_
      exact v_iret fx [(h0, ob 0 [.ref ba, .int (iI c), .int (iI pl), .int (iI tu)]), (ba, aB g n f)] [1, 0] hr dX0_byteOf_26 rfl rfl (nl rfl) (nl rfl) ⟨t_3, rfl, rfl⟩
theorem dX0_makeRoomFor_0 : decode cX0_makeRoomFor 0 = .ok (.aload_n 0, 1) := by decide +kernel
theorem dX0_makeRoomFor_1 : decode cX0_makeRoomFor 1 = .ok (.getfield 29, 3) := by decide +kernel
theorem dX0_makeRoomFor_4 : decode cX0_makeRoomFor 4 = .ok (.iload_n 1, 1) := by decide +kernel
theorem dX0_makeRoomFor_5 : decode cX0_makeRoomFor 5 = .ok (.iadd, 1) := by decide +kernel
theorem dX0_makeRoomFor_6 : decode cX0_makeRoomFor 6 = .ok (.bipush 7, 2) := by decide +kernel
theorem dX0_makeRoomFor_8 : decode cX0_makeRoomFor 8 = .ok (.iadd, 1) := by decide +kernel
theorem dX0_makeRoomFor_9 : decode cX0_makeRoomFor 9 = .ok (.iconst 3, 1) := by decide +kernel
theorem dX0_makeRoomFor_10 : decode cX0_makeRoomFor 10 = .ok (.ishr, 1) := by decide +kernel
theorem dX0_makeRoomFor_11 : decode cX0_makeRoomFor 11 = .ok (.istore_n 2, 1) := by decide +kernel
theorem dX0_makeRoomFor_12 : decode cX0_makeRoomFor 12 = .ok (.iload_n 2, 1) := by decide +kernel
theorem dX0_makeRoomFor_13 : decode cX0_makeRoomFor 13 = .ok (.aload_n 0, 1) := by decide +kernel
theorem dX0_makeRoomFor_14 : decode cX0_makeRoomFor 14 = .ok (.getfield 9, 3) := by decide +kernel
theorem dX0_makeRoomFor_17 : decode cX0_makeRoomFor 17 = .ok (.arraylength, 1) := by decide +kernel
theorem dX0_makeRoomFor_18 : decode cX0_makeRoomFor 18 = .ok (.if_icmp .le 25, 3) := by decide +kernel
theorem dX0_makeRoomFor_21 : decode cX0_makeRoomFor 21 = .ok (.aload_n 0, 1) := by decide +kernel
theorem dX0_makeRoomFor_22 : decode cX0_makeRoomFor 22 = .ok (.aload_n 0, 1) := by decide +kernel
theorem dX0_makeRoomFor_23 : decode cX0_makeRoomFor 23 = .ok (.getfield 9, 3) := by decide +kernel
theorem dX0_makeRoomFor_26 : decode cX0_makeRoomFor 26 = .ok (.iload_n 2, 1) := by decide +kernel
theorem dX0_makeRoomFor_27 : decode cX0_makeRoomFor 27 = .ok (.iconst 2, 1) := by decide +kernel
theorem dX0_makeRoomFor_28 : decode cX0_makeRoomFor 28 = .ok (.aload_n 0, 1) := by decide +kernel
theorem dX0_makeRoomFor_29 : decode cX0_makeRoomFor 29 = .ok (.getfield 9, 3) := by decide +kernel
theorem dX0_makeRoomFor_32 : decode cX0_makeRoomFor 32 = .ok (.arraylength, 1) := by decide +kernel
theorem dX0_makeRoomFor_33 : decode cX0_makeRoomFor 33 = .ok (.imul, 1) := by decide +kernel
theorem dX0_makeRoomFor_34 : decode cX0_makeRoomFor 34 = .ok (.invokestatic 59, 3) := by decide +kernel
theorem dX0_makeRoomFor_37 : decode cX0_makeRoomFor 37 = .ok (.invokestatic 62, 3) := by decide +kernel
theorem dX0_makeRoomFor_40 : decode cX0_makeRoomFor 40 = .ok (.putfield 9, 3) := by decide +kernel
theorem dX0_makeRoomFor_43 : decode cX0_makeRoomFor 43 = .ok (.return_, 1) := by decide +kernel
abbrev po_c_X0_makeRoomFor (g : GG) (h0 : Nat) (ba : Nat) (n : Nat) (f : Nat → Int32) (c : Int) (pl : Int) (tu : Int) (x : Int) : Option Value → va_W → Nat → Nat → Prop := fun v8 w8 kc8 ks8 => ∃ b2 : Nat, ∃ n2 : Nat, ∃ f2 : Nat → Int32, v8 = none ∧ w8 = [(h0, ob 0 [.ref b2, .int (iI c), .int (iI pl), .int (iI tu)]), (b2, aB g n2 f2)] ∧ (ks8 + 2 * n ≤ 2 * n2 ∧ 64 * kc8 ≤ ks8 ∧ n ≤ n2 ∧ n2 ≤ 130000 ∧ kc8 ≤ 1) ∧ ((c + x + 7) / 8 ≤ (n2 : Int)) ∧ (bF f2)
set_option maxHeartbeats 4000000 in
set_option maxRecDepth 100000 in
/-- room for so many bits more -/
theorem c_X0_makeRoomFor (l : Launch) (g : GG) (h0 : Nat) (ba : Nat) (n : Nat) (f : Nat → Int32) (c : Int) (pl : Int) (tu : Int) (x : Int) (hp0 : 0 ≤ c ∧ c ≤ 8 * (n : Int) ∧ 64 ≤ n ∧ n ≤ 130000) (hp1 : bF f) (hp2 : 0 ≤ x ∧ x ≤ 4000) (hp3 : (c + x + 7) / 8 ≤ 65000) : CtE l g yX0_makeRoomFor (wM yX0_makeRoomFor cX0_makeRoomFor 3 none) (rmD 2 1 130000) [.ref h0, .int (iI x)] [(h0, ob 0 [.ref ba, .int (iI c), .int (iI pl), .int (iI tu)]), (ba, aB g n f)] (po_c_X0_makeRoomFor g h0 ba n f c pl tu x) := by
  refine CtE_of (by decide +kernel) (Nat.le_of_ble_eq_true rfl) ?_
  intro p9 e9 s9 m9 ag9 bl9 mt9 c9 A9 fx hr hnm
  refine v_aload_n fx 0 dX0_makeRoomFor_0 rfl rfl ?_
  refine v_get fx 0 1 inX0 k122 dX0_makeRoomFor_1 rfl rfl (by decide) rfl rfl rfl ?_
  refine v_iload_n fx 1 dX0_makeRoomFor_4 rfl rfl ?_
  refine v_iadd fx (c + x) dX0_makeRoomFor_5 (by rfl) rfl ?_
  refine v_bipush fx dX0_makeRoomFor_6 (by decide +kernel) rfl ?_
  refine v_iadd fx ((c + x) + 7) dX0_makeRoomFor_8 (by rfl) rfl ?_
  refine v_iconst fx dX0_makeRoomFor_9 rfl ?_
  refine v_ishr fx (iI (((c + x) + 7) / 8)) dX0_makeRoomFor_10 (iI_shr (k := 3) (by omega) _ (by decide)) rfl ?_
  refine v_istore_n fx [(2, .int (iI (((c + x) + 7) / 8))), (0, .ref h0), (1, .int (iI x))] dX0_makeRoomFor_11 (by decide) rfl rfl ?_
  refine v_iload_n fx 0 dX0_makeRoomFor_12 rfl rfl ?_
  refine v_aload_n fx 1 dX0_makeRoomFor_13 rfl rfl ?_
  refine v_get fx 0 0 inX0 k121 dX0_makeRoomFor_14 rfl rfl (by decide) rfl rfl rfl ?_
  refine v_alen fx 1 1 (n : Int) dX0_makeRoomFor_17 rfl rfl rfl rfl ?_
  refine v_icmp_le fx 43 dX0_makeRoomFor_18 (by decide) rfl (by omega) (by omega) (fun h_1 => ?_) (fun h_1 => ?_)
  ·
    exact v_vretE fx [(h0, ob 0 [.ref ba, .int (iI c), .int (iI pl), .int (iI tu)]), (ba, aB g n f)] [0, 1] hr dX0_makeRoomFor_43 rfl rfl ⟨ba, n, f, rfl, rfl, (by first | omega | rfl | assumption), (by first | omega | rfl | assumption), (by first | exact hp1 | exact hbF)⟩
  ·
    refine v_aload_n fx 1 dX0_makeRoomFor_21 rfl rfl ?_
    refine v_aload_n fx 1 dX0_makeRoomFor_22 rfl rfl ?_
    refine v_get fx 0 0 inX0 k121 dX0_makeRoomFor_23 rfl rfl (by decide) rfl rfl rfl ?_
    refine v_iload_n fx 0 dX0_makeRoomFor_26 rfl rfl ?_
    refine v_iconst fx dX0_makeRoomFor_27 rfl ?_
    refine v_aload_n fx 1 dX0_makeRoomFor_28 rfl rfl ?_
    refine v_get fx 0 0 inX0 k121 dX0_makeRoomFor_29 rfl rfl (by decide) rfl rfl rfl ?_
    refine v_alen fx 1 1 (n : Int) dX0_makeRoomFor_32 rfl rfl rfl rfl ?_
    refine v_imul fx (2 * (n : Int)) dX0_makeRoomFor_33 (by rfl) rfl ?_
    obtain ⟨z_2, ez_2⟩ : ∃ z9 : Int, (if ((c + x) + 7) / 8 < 2 * (n : Int) then 2 * (n : Int) else ((c + x) + 7) / 8) = z9 := ⟨_, rfl⟩
    have hz_2 : (((c + x) + 7) / 8 < 2 * (n : Int) ∧ z_2 = 2 * (n : Int)) ∨ (¬ ((c + x) + 7) / 8 < 2 * (n : Int) ∧ z_2 = ((c + x) + 7) / 8) := by split at ez_2 <;> omega
    refine v_mmax fx (z_2) (by omega) (by omega) (ez_2) k711 k83 k47 k84 dX0_makeRoomFor_34 (nl rfl) (nl rfl) (nl rfl) (nl rfl) (nl rfl) rfl ?_
    refine v_callS (As := [.ref ba, .int (iI z_2)]) (rest := [.ref h0]) fx [1] [0] [(ba, aB g n f)] [(h0, ob 0 [.ref ba, .int (iI c), .int (iI pl), .int (iI tu)])] 2 (c_J7_copyOf_9075b l g ba n f z_2 (by first | omega | decide | assumption) (by exact hp1)) dX0_makeRoomFor_37 k712 k477 k55 k478 ykJ7_copyOf_9075b rfl rfl rfl rfl rfl (nl rfl) ⟨nl rfl, nl rfl⟩ ⟨(nl rfl), (by show 0 + z_2.toNat ≤ 130000; omega)⟩ rfl (fun v9 w9 hu => ?_)
    obtain ⟨h2_3, fc, rfl, rfl, u_4, u_5⟩ := hu
    refine v_is (wn := [(h0, ob 0 [.ref ba, .int (iI c), .int (iI pl), .int (iI tu)]), (ba, aB g n f), (h2_3, aB g z_2.toNat fc)]) (cn := 1) (sn := z_2.toNat) (sn2 := [.ref h2_3, .ref h0]) rfl rfl (Nat.zero_add _) rfl ?_
    have hbF := bF_cpy hp1 u_4 u_5
    refine v_put fx 0 0 [(h0, ob 0 [.ref h2_3, .int (iI c), .int (iI pl), .int (iI tu)]), (ba, aB g n f), (h2_3, aB g z_2.toNat fc)] inX0 tyX0_ok nmX0 k121 dX0_makeRoomFor_40 rfl rfl (by decide) rfl rfl rfl rfl (nl rfl) rfl rfl ?_
    exact v_vretE fx [(h0, ob 0 [.ref h2_3, .int (iI c), .int (iI pl), .int (iI tu)]), (h2_3, aB g z_2.toNat fc)] [0, 2] hr dX0_makeRoomFor_43 rfl rfl ⟨h2_3, z_2.toNat, fc, rfl, rfl, (by first | omega | rfl | assumption), (by first | omega | rfl | assumption), (by first | exact hp1 | exact hbF)⟩
theorem dX0_addByte_0 : decode cX0_addByte 0 = .ok (.aload_n 0, 1) := by decide +kernel
theorem dX0_addByte_1 : decode cX0_addByte 1 = .ok (.bipush 8, 2) := by decide +kernel
theorem dX0_addByte_3 : decode cX0_addByte 3 = .ok (.invokevirtual 35, 3) := by decide +kernel
theorem dX0_addByte_6 : decode cX0_addByte 6 = .ok (.aload_n 0, 1) := by decide +kernel
theorem dX0_addByte_7 : decode cX0_addByte 7 = .ok (.getfield 9, 3) := by decide +kernel
theorem dX0_addByte_10 : decode cX0_addByte 10 = .ok (.aload_n 0, 1) := by decide +kernel
theorem dX0_addByte_11 : decode cX0_addByte 11 = .ok (.getfield 29, 3) := by decide +kernel
theorem dX0_addByte_14 : decode cX0_addByte 14 = .ok (.iconst 3, 1) := by decide +kernel
theorem dX0_addByte_15 : decode cX0_addByte 15 = .ok (.ishr, 1) := by decide +kernel
theorem dX0_addByte_16 : decode cX0_addByte 16 = .ok (.iload_n 1, 1) := by decide +kernel
theorem dX0_addByte_17 : decode cX0_addByte 17 = .ok (.i2b, 1) := by decide +kernel
theorem dX0_addByte_18 : decode cX0_addByte 18 = .ok (.bastore, 1) := by decide +kernel
theorem dX0_addByte_19 : decode cX0_addByte 19 = .ok (.aload_n 0, 1) := by decide +kernel
theorem dX0_addByte_20 : decode cX0_addByte 20 = .ok (.dup, 1) := by decide +kernel
theorem dX0_addByte_21 : decode cX0_addByte 21 = .ok (.getfield 29, 3) := by decide +kernel
theorem dX0_addByte_24 : decode cX0_addByte 24 = .ok (.bipush 8, 2) := by decide +kernel
theorem dX0_addByte_26 : decode cX0_addByte 26 = .ok (.iadd, 1) := by decide +kernel
theorem dX0_addByte_27 : decode cX0_addByte 27 = .ok (.putfield 29, 3) := by decide +kernel
theorem dX0_addByte_30 : decode cX0_addByte 30 = .ok (.return_, 1) := by decide +kernel
abbrev po_c_X0_addByte (g : GG) (h0 : Nat) (ba : Nat) (n : Nat) (f : Nat → Int32) (c : Int) (pl : Int) (tu : Int) (x : Int32) : Option Value → va_W → Nat → Nat → Prop := fun v8 w8 kc8 ks8 => ∃ b2 : Nat, ∃ n2 : Nat, ∃ f2 : Nat → Int32, v8 = none ∧ w8 = [(h0, ob 0 [.ref b2, .int (iI (c + 8)), .int (iI pl), .int (iI tu)]), (b2, aB g n2 f2)] ∧ (ks8 + 2 * n ≤ 2 * n2 ∧ 64 * kc8 ≤ ks8 ∧ n ≤ n2 ∧ n2 ≤ 130000 ∧ kc8 ≤ 1) ∧ ((c + 15) / 8 ≤ (n2 : Int)) ∧ (bF f2)
set_option maxHeartbeats 4000000 in
set_option maxRecDepth 100000 in
theorem c_X0_addByte (l : Launch) (g : GG) (h0 : Nat) (ba : Nat) (n : Nat) (f : Nat → Int32) (c : Int) (pl : Int) (tu : Int) (x : Int32) (hp0 : 0 ≤ c ∧ c ≤ 8 * (n : Int) ∧ 64 ≤ n ∧ n ≤ 130000) (hp1 : bF f) (hp2 : (c + 15) / 8 ≤ 65000) : CtE l g yX0_addByte (wM yX0_addByte cX0_addByte 2 none) (rmD 3 1 260000) [.ref h0, .int x] [(h0, ob 0 [.ref ba, .int (iI c), .int (iI pl), .int (iI tu)]), (ba, aB g n f)] (po_c_X0_addByte g h0 ba n f c pl tu x) := by
  refine CtE_of (by decide +kernel) (Nat.le_of_ble_eq_true rfl) ?_
  intro p9 e9 s9 m9 ag9 bl9 mt9 c9 A9 fx hr hnm
  refine v_aload_n fx 0 dX0_addByte_0 rfl rfl ?_
  refine v_bipush fx dX0_addByte_1 (by decide +kernel) rfl ?_
  refine v_callVE (As := [.int (iI 8)]) (rest := []) fx [0, 1] [] [(h0, ob 0 [.ref ba, .int (iI c), .int (iI pl), .int (iI tu)]), (ba, aB g n f)] [] 1 0 (c_X0_makeRoomFor l g h0 ba n f c pl tu 8 (by first | omega | decide | assumption) (by exact hp1) (by first | omega | decide | assumption) (by first | omega | decide | assumption)) dX0_addByte_3 k707 k709 k8 k50 k710 ykX0_makeRoomFor rfl rfl rfl rfl rfl rfl rfl rfl (nl rfl) ⟨nl rfl, nl rfl⟩ ⟨(nl rfl), (nl rfl)⟩ rfl (fun v9 w9 kc_1 ks_2 hu => ?_)
  obtain ⟨b2_3, n2_4, f2_5, rfl, rfl, u_6, u_7, u_8⟩ := hu
  refine v_is (wn := [(h0, ob 0 [.ref b2_3, .int (iI c), .int (iI pl), .int (iI tu)]), (b2_3, aB g n2_4 f2_5)]) (cn := kc_1) (sn := ks_2) (sn2 := []) rfl (Nat.zero_add _) (Nat.zero_add _) rfl ?_
  refine v_aload_n fx 0 dX0_addByte_6 rfl rfl ?_
  refine v_get fx 0 0 inX0 k121 dX0_addByte_7 rfl rfl (by decide) rfl rfl rfl ?_
  refine v_aload_n fx 0 dX0_addByte_10 rfl rfl ?_
  refine v_get fx 0 1 inX0 k122 dX0_addByte_11 rfl rfl (by decide) rfl rfl rfl ?_
  refine v_iconst fx dX0_addByte_14 rfl ?_
  refine v_ishr fx (iI (c / 8)) dX0_addByte_15 (iI_shr (k := 3) (by omega) _ (by decide)) rfl ?_
  refine v_iload_n fx 1 dX0_addByte_16 rfl rfl ?_
  refine v_i2b fx ((x).toInt8.toInt32) dX0_addByte_17 rfl rfl ?_
  obtain ⟨f_9, ef_9⟩ : ∃ f9 : Nat → Int32, upd f2_5 (c / 8).toNat (vp_nar .byte ((x).toInt8.toInt32)) = f9 := ⟨_, rfl⟩
  refine v_bast fx 1 f_9 [(h0, ob 0 [.ref b2_3, .int (iI c), .int (iI pl), .int (iI tu)]), (b2_3, aB g n2_4 f_9)] dX0_addByte_18 rfl (by omega) (by omega) ef_9 rfl rfl ?_
  refine v_aload_n fx 0 dX0_addByte_19 rfl rfl ?_
  refine v_dup fx dX0_addByte_20 rfl rfl ?_
  refine v_get fx 0 1 inX0 k122 dX0_addByte_21 rfl rfl (by decide) rfl rfl rfl ?_
  refine v_bipush fx dX0_addByte_24 (by decide +kernel) rfl ?_
  refine v_iadd fx (c + 8) dX0_addByte_26 (by rfl) rfl ?_
  refine v_put fx 0 1 [(h0, ob 0 [.ref b2_3, .int (iI (c + 8)), .int (iI pl), .int (iI tu)]), (b2_3, aB g n2_4 f_9)] inX0 tyX0_ok nmX0 k122 dX0_addByte_27 rfl rfl (by decide) rfl rfl rfl rfl (nl rfl) rfl rfl ?_
  exact v_vretE fx [(h0, ob 0 [.ref b2_3, .int (iI (c + 8)), .int (iI pl), .int (iI tu)]), (b2_3, aB g n2_4 f_9)] [0, 1] hr dX0_addByte_30 rfl rfl ⟨b2_3, n2_4, f_9, rfl, rfl, (by first | omega | rfl | assumption), (by first | omega | rfl | assumption), (by exact bF_updE (by assumption) (by assumption))⟩
theorem dX0_addZeros_0 : decode cX0_addZeros 0 = .ok (.aload_n 0, 1) := by decide +kernel
theorem dX0_addZeros_1 : decode cX0_addZeros 1 = .ok (.iload_n 1, 1) := by decide +kernel
theorem dX0_addZeros_2 : decode cX0_addZeros 2 = .ok (.invokevirtual 35, 3) := by decide +kernel
theorem dX0_addZeros_5 : decode cX0_addZeros 5 = .ok (.aload_n 0, 1) := by decide +kernel
theorem dX0_addZeros_6 : decode cX0_addZeros 6 = .ok (.dup, 1) := by decide +kernel
theorem dX0_addZeros_7 : decode cX0_addZeros 7 = .ok (.getfield 29, 3) := by decide +kernel
theorem dX0_addZeros_10 : decode cX0_addZeros 10 = .ok (.iload_n 1, 1) := by decide +kernel
theorem dX0_addZeros_11 : decode cX0_addZeros 11 = .ok (.iadd, 1) := by decide +kernel
theorem dX0_addZeros_12 : decode cX0_addZeros 12 = .ok (.putfield 29, 3) := by decide +kernel
theorem dX0_addZeros_15 : decode cX0_addZeros 15 = .ok (.return_, 1) := by decide +kernel
abbrev po_c_X0_addZeros (g : GG) (h0 : Nat) (ba : Nat) (n : Nat) (f : Nat → Int32) (c : Int) (pl : Int) (tu : Int) (x : Int) : Option Value → va_W → Nat → Nat → Prop := fun v8 w8 kc8 ks8 => ∃ b2 : Nat, ∃ n2 : Nat, ∃ f2 : Nat → Int32, v8 = none ∧ w8 = [(h0, ob 0 [.ref b2, .int (iI (c + x)), .int (iI pl), .int (iI tu)]), (b2, aB g n2 f2)] ∧ (ks8 + 2 * n ≤ 2 * n2 ∧ 64 * kc8 ≤ ks8 ∧ n ≤ n2 ∧ n2 ≤ 130000 ∧ kc8 ≤ 1) ∧ ((c + x + 7) / 8 ≤ (n2 : Int)) ∧ (bF f2)
set_option maxHeartbeats 4000000 in
set_option maxRecDepth 100000 in
theorem c_X0_addZeros (l : Launch) (g : GG) (h0 : Nat) (ba : Nat) (n : Nat) (f : Nat → Int32) (c : Int) (pl : Int) (tu : Int) (x : Int) (hp0 : 0 ≤ c ∧ c ≤ 8 * (n : Int) ∧ 64 ≤ n ∧ n ≤ 130000) (hp1 : bF f) (hp2 : 0 ≤ x ∧ x ≤ 4000) (hp3 : (c + x + 7) / 8 ≤ 65000) : CtE l g yX0_addZeros (wM yX0_addZeros cX0_addZeros 2 none) (rmD 3 1 260000) [.ref h0, .int (iI x)] [(h0, ob 0 [.ref ba, .int (iI c), .int (iI pl), .int (iI tu)]), (ba, aB g n f)] (po_c_X0_addZeros g h0 ba n f c pl tu x) := by
  refine CtE_of (by decide +kernel) (Nat.le_of_ble_eq_true rfl) ?_
  intro p9 e9 s9 m9 ag9 bl9 mt9 c9 A9 fx hr hnm
  refine v_aload_n fx 0 dX0_addZeros_0 rfl rfl ?_
  refine v_iload_n fx 1 dX0_addZeros_1 rfl rfl ?_
  refine v_callVE (As := [.int (iI x)]) (rest := []) fx [0, 1] [] [(h0, ob 0 [.ref ba, .int (iI c), .int (iI pl), .int (iI tu)]), (ba, aB g n f)] [] 1 0 (c_X0_makeRoomFor l g h0 ba n f c pl tu x (by first | omega | decide | assumption) (by exact hp1) (by first | omega | decide | assumption) (by first | omega | decide | assumption)) dX0_addZeros_2 k707 k709 k8 k50 k710 ykX0_makeRoomFor rfl rfl rfl rfl rfl rfl rfl rfl (nl rfl) ⟨nl rfl, nl rfl⟩ ⟨(nl rfl), (nl rfl)⟩ rfl (fun v9 w9 kc_1 ks_2 hu => ?_)
  obtain ⟨b2_3, n2_4, f2_5, rfl, rfl, u_6, u_7, u_8⟩ := hu
  refine v_is (wn := [(h0, ob 0 [.ref b2_3, .int (iI c), .int (iI pl), .int (iI tu)]), (b2_3, aB g n2_4 f2_5)]) (cn := kc_1) (sn := ks_2) (sn2 := []) rfl (Nat.zero_add _) (Nat.zero_add _) rfl ?_
  refine v_aload_n fx 0 dX0_addZeros_5 rfl rfl ?_
  refine v_dup fx dX0_addZeros_6 rfl rfl ?_
  refine v_get fx 0 1 inX0 k122 dX0_addZeros_7 rfl rfl (by decide) rfl rfl rfl ?_
  refine v_iload_n fx 1 dX0_addZeros_10 rfl rfl ?_
  refine v_iadd fx (c + x) dX0_addZeros_11 (by rfl) rfl ?_
  refine v_put fx 0 1 [(h0, ob 0 [.ref b2_3, .int (iI (c + x)), .int (iI pl), .int (iI tu)]), (b2_3, aB g n2_4 f2_5)] inX0 tyX0_ok nmX0 k122 dX0_addZeros_12 rfl rfl (by decide) rfl rfl rfl rfl (nl rfl) rfl rfl ?_
  exact v_vretE fx [(h0, ob 0 [.ref b2_3, .int (iI (c + x)), .int (iI pl), .int (iI tu)]), (b2_3, aB g n2_4 f2_5)] [0, 1] hr dX0_addZeros_15 rfl rfl ⟨b2_3, n2_4, f2_5, rfl, rfl, (by first | omega | rfl | assumption), (by first | omega | rfl | assumption), (by assumption)⟩
theorem dX0_addCode_0 : decode cX0_addCode 0 = .ok (.aload_n 0, 1) := by decide +kernel
theorem dX0_addCode_1 : decode cX0_addCode 1 = .ok (.bipush 13, 2) := by decide +kernel
theorem dX0_addCode_3 : decode cX0_addCode 3 = .ok (.invokevirtual 35, 3) := by decide +kernel
theorem dX0_addCode_6 : decode cX0_addCode 6 = .ok (.iload_n 1, 1) := by decide +kernel
theorem dX0_addCode_7 : decode cX0_addCode 7 = .ok (.invokestatic 39, 3) := by decide +kernel
theorem dX0_addCode_10 : decode cX0_addCode 10 = .ok (.iconst 1, 1) := by decide +kernel
theorem dX0_addCode_11 : decode cX0_addCode 11 = .ok (.ishr, 1) := by decide +kernel
theorem dX0_addCode_12 : decode cX0_addCode 12 = .ok (.istore_n 2, 1) := by decide +kernel
theorem dX0_addCode_13 : decode cX0_addCode 13 = .ok (.iload_n 2, 1) := by decide +kernel
theorem dX0_addCode_14 : decode cX0_addCode 14 = .ok (.ifCond .le 55, 3) := by decide +kernel
theorem dX0_addCode_17 : decode cX0_addCode 17 = .ok (.iload_n 1, 1) := by decide +kernel
theorem dX0_addCode_18 : decode cX0_addCode 18 = .ok (.iload_n 2, 1) := by decide +kernel
theorem dX0_addCode_19 : decode cX0_addCode 19 = .ok (.iand, 1) := by decide +kernel
theorem dX0_addCode_20 : decode cX0_addCode 20 = .ok (.ifCond .eq 32, 3) := by decide +kernel
theorem dX0_addCode_23 : decode cX0_addCode 23 = .ok (.aload_n 0, 1) := by decide +kernel
theorem dX0_addCode_24 : decode cX0_addCode 24 = .ok (.getfield 9, 3) := by decide +kernel
theorem dX0_addCode_27 : decode cX0_addCode 27 = .ok (.aload_n 0, 1) := by decide +kernel
theorem dX0_addCode_28 : decode cX0_addCode 28 = .ok (.getfield 29, 3) := by decide +kernel
theorem dX0_addCode_31 : decode cX0_addCode 31 = .ok (.iconst 3, 1) := by decide +kernel
theorem dX0_addCode_32 : decode cX0_addCode 32 = .ok (.ishr, 1) := by decide +kernel
theorem dX0_addCode_33 : decode cX0_addCode 33 = .ok (.dup2, 1) := by decide +kernel
theorem dX0_addCode_34 : decode cX0_addCode 34 = .ok (.baload, 1) := by decide +kernel
theorem dX0_addCode_35 : decode cX0_addCode 35 = .ok (.iconst 1, 1) := by decide +kernel
theorem dX0_addCode_36 : decode cX0_addCode 36 = .ok (.aload_n 0, 1) := by decide +kernel
theorem dX0_addCode_37 : decode cX0_addCode 37 = .ok (.getfield 29, 3) := by decide +kernel
theorem dX0_addCode_40 : decode cX0_addCode 40 = .ok (.bipush 7, 2) := by decide +kernel
theorem dX0_addCode_42 : decode cX0_addCode 42 = .ok (.iand, 1) := by decide +kernel
theorem dX0_addCode_43 : decode cX0_addCode 43 = .ok (.aload_n 0, 1) := by decide +kernel
theorem dX0_addCode_44 : decode cX0_addCode 44 = .ok (.getfield 15, 3) := by decide +kernel
theorem dX0_addCode_47 : decode cX0_addCode 47 = .ok (.ixor, 1) := by decide +kernel
theorem dX0_addCode_48 : decode cX0_addCode 48 = .ok (.ishl, 1) := by decide +kernel
theorem dX0_addCode_49 : decode cX0_addCode 49 = .ok (.ior, 1) := by decide +kernel
theorem dX0_addCode_50 : decode cX0_addCode 50 = .ok (.i2b, 1) := by decide +kernel
theorem dX0_addCode_51 : decode cX0_addCode 51 = .ok (.bastore, 1) := by decide +kernel
theorem dX0_addCode_52 : decode cX0_addCode 52 = .ok (.aload_n 0, 1) := by decide +kernel
theorem dX0_addCode_53 : decode cX0_addCode 53 = .ok (.dup, 1) := by decide +kernel
theorem dX0_addCode_54 : decode cX0_addCode 54 = .ok (.getfield 29, 3) := by decide +kernel
theorem dX0_addCode_57 : decode cX0_addCode 57 = .ok (.iconst 1, 1) := by decide +kernel
theorem dX0_addCode_58 : decode cX0_addCode 58 = .ok (.iadd, 1) := by decide +kernel
theorem dX0_addCode_59 : decode cX0_addCode 59 = .ok (.putfield 29, 3) := by decide +kernel
theorem dX0_addCode_62 : decode cX0_addCode 62 = .ok (.iload_n 2, 1) := by decide +kernel
theorem dX0_addCode_63 : decode cX0_addCode 63 = .ok (.iconst 1, 1) := by decide +kernel
theorem dX0_addCode_64 : decode cX0_addCode 64 = .ok (.ishr, 1) := by decide +kernel
theorem dX0_addCode_65 : decode cX0_addCode 65 = .ok (.istore_n 2, 1) := by decide +kernel
theorem dX0_addCode_66 : decode cX0_addCode 66 = .ok (.goto (-53), 3) := by decide +kernel
theorem dX0_addCode_69 : decode cX0_addCode 69 = .ok (.return_, 1) := by decide +kernel
abbrev po_c_X0_addCode (g : GG) (h0 : Nat) (ba : Nat) (n : Nat) (f : Nat → Int32) (c : Int) (pl : Int) (tu : Int) (x : Int) : Option Value → va_W → Nat → Nat → Prop := fun v8 w8 kc8 ks8 => ∃ b2 : Nat, ∃ n2 : Nat, ∃ f2 : Nat → Int32, ∃ c2 : Int, v8 = none ∧ w8 = [(h0, ob 0 [.ref b2, .int (iI c2), .int (iI pl), .int (iI tu)]), (b2, aB g n2 f2)] ∧ (ks8 + 2 * n ≤ 2 * n2 ∧ 64 * kc8 ≤ ks8 ∧ n ≤ n2 ∧ n2 ≤ 130000 ∧ kc8 ≤ 1) ∧ (c2 = c + (clen x : Int)) ∧ (c2 ≤ 8 * (n2 : Int)) ∧ (bF f2) ∧ (clen x ≤ 13)
set_option maxHeartbeats 4000000 in
set_option maxRecDepth 100000 in
/-- a code comes behind the bits -/
theorem c_X0_addCode (l : Launch) (g : GG) (h0 : Nat) (ba : Nat) (n : Nat) (f : Nat → Int32) (c : Int) (pl : Int) (tu : Int) (x : Int) (hp0 : 0 ≤ c ∧ c ≤ 8 * (n : Int) ∧ 64 ≤ n ∧ n ≤ 130000) (hp1 : bF f) (hp2 : (c + 20) / 8 ≤ 65000) (hp3 : 1 ≤ x ∧ x < 16384) : CtE l g yX0_addCode (wM yX0_addCode cX0_addCode 3 none) (rmD 3 1 260000) [.ref h0, .int (iI x)] [(h0, ob 0 [.ref ba, .int (iI c), .int (iI pl), .int (iI tu)]), (ba, aB g n f)] (po_c_X0_addCode g h0 ba n f c pl tu x) := by
  refine CtE_of (by decide +kernel) (Nat.le_of_ble_eq_true rfl) ?_
  intro p9 e9 s9 m9 ag9 bl9 mt9 c9 A9 fx hr hnm
  have hcl := clen_b (x := x) (by omega)
  have hj : clen x ≤ 13 := by
    unfold clen
    exact Nat.le_of_lt_succ ((Nat.log2_lt (by omega)).mpr (by omega))
  refine v_aload_n fx 0 dX0_addCode_0 rfl rfl ?_
  refine v_bipush fx dX0_addCode_1 (by decide +kernel) rfl ?_
  refine v_callVE (As := [.int (iI 13)]) (rest := []) fx [0, 1] [] [(h0, ob 0 [.ref ba, .int (iI c), .int (iI pl), .int (iI tu)]), (ba, aB g n f)] [] 1 0 (c_X0_makeRoomFor l g h0 ba n f c pl tu 13 (by first | omega | decide | assumption) (by exact hp1) (by first | omega | decide | assumption) (by first | omega | decide | assumption)) dX0_addCode_3 k707 k709 k8 k50 k710 ykX0_makeRoomFor rfl rfl rfl rfl rfl rfl rfl rfl (nl rfl) ⟨nl rfl, nl rfl⟩ ⟨(nl rfl), (nl rfl)⟩ rfl (fun v9 w9 kc_1 ks_2 hu => ?_)
  obtain ⟨bb, nn, ff, rfl, rfl, u_3, u_4, u_5⟩ := hu
  refine v_is (wn := [(h0, ob 0 [.ref bb, .int (iI c), .int (iI pl), .int (iI tu)]), (bb, aB g nn ff)]) (cn := kc_1) (sn := ks_2) (sn2 := []) rfl (Nat.zero_add _) (Nat.zero_add _) rfl ?_
  have hbF0 := u_5
  refine v_iload_n fx 1 dX0_addCode_6 rfl rfl ?_
  refine v_callSN (As := [.int (iI x)]) (rest := []) fx [] [0, 1] [] [(h0, ob 0 [.ref bb, .int (iI c), .int (iI pl), .int (iI tu)]), (bb, aB g nn ff)] 1 (c_X7_topBit l g x (by first | omega | decide | assumption)) dX0_addCode_7 n713 k212 k46 k213 ykX7_topBit rfl rfl rfl rfl rfl (nl rfl) ⟨nl rfl, nl rfl⟩ ⟨(by show kc_1 + 0 ≤ 1; omega), (by show ks_2 + 0 ≤ 260000; omega)⟩ rfl (fun v9 w9 hu => ?_)
  obtain ⟨t_1, rfl, rfl, u_6, u_7, u_8, u_9⟩ := hu
  refine v_is (wn := [(h0, ob 0 [.ref bb, .int (iI c), .int (iI pl), .int (iI tu)]), (bb, aB g nn ff)]) (cn := kc_1) (sn := ks_2) (sn2 := [.int (iI t_1)]) rfl rfl rfl rfl ?_
  have ht := top_eq (t := t_1) hj hcl (by assumption) (by assumption) (by assumption)
  refine v_iconst fx dX0_addCode_10 rfl ?_
  refine v_ishr fx (iI (t_1 / 2)) dX0_addCode_11 (iI_shr (k := 1) (by omega) _ (by decide)) rfl ?_
  refine v_istore_n fx [(2, .int (iI (t_1 / 2))), (0, .ref h0), (1, .int (iI x))] dX0_addCode_12 (by decide) rfl rfl ?_
  have L13 : ∀ (N : Nat) (i : Nat) (b : Int) (c1 : Int) (f1 : Nat → Int32), (b = hb2 i) → (i ≤ 13) → (c1 + (i : Int) = c + (clen x : Int)) → (c ≤ c1) → (bF f1) → b.toNat < N → V p9 l e9 (rmD 3 1 260000) s9 m9 ag9 bl9 mt9 c9 3 g A9 (MQE bl9 (cQE g (po_c_X0_addCode g h0 ba n f c pl tu x) A9) ag9 s9 A9) [(h0, ob 0 [.ref bb, .int (iI c1), .int (iI pl), .int (iI tu)]), (bb, aB g nn f1)] kc_1 ks_2 [(0, .ref h0), (1, .int (iI x)), (2, .int (iI b))] 13 [] := by
    intro N
    induction N with
    | zero => intro i b c1 f1 hi13_0 hi13_1 hi13_2 hi13_3 hi13_4 hN; exact absurd hN (Nat.not_lt_zero _)
    | succ N ihL13 =>
      intro i b c1 f1 hi13_0 hi13_1 hi13_2 hi13_3 hi13_4 hN13
      have hbb := hb2_bnd hi13_0 hi13_1
      refine v_iload_n fx 2 dX0_addCode_13 rfl rfl ?_
      refine v_if_le fx 69 dX0_addCode_14 (by decide) rfl (by omega) (fun h_10 => ?_) (fun h_10 => ?_)
      ·
        have hi0 := hb2_end hi13_0 (by omega)
        exact v_vretE fx [(h0, ob 0 [.ref bb, .int (iI c1), .int (iI pl), .int (iI tu)]), (bb, aB g nn f1)] [0, 1] hr dX0_addCode_69 rfl rfl ⟨bb, nn, f1, c1, rfl, rfl, (by first | omega | rfl | assumption), (by first | omega | rfl | assumption), (by first | omega | rfl | assumption), (by exact hi13_4), (by exact hj)⟩
      ·
        obtain ⟨i1, rfl, hb1⟩ := hb2_step hi13_0 (by omega)
        refine v_iload_n fx 1 dX0_addCode_17 rfl rfl ?_
        refine v_iload_n fx 2 dX0_addCode_18 rfl rfl ?_
        obtain ⟨t_11, et_11⟩ : ∃ x9 : Int32, (iI x) &&& (iI b) = x9 := ⟨_, rfl⟩
        refine v_iand fx t_11 dX0_addCode_19 et_11 rfl ?_
        refine v_any (fun z_12 hz_12 ez_12 => ?_)
        refine v_if_eq fx 52 dX0_addCode_20 (by decide) rfl (by omega) (fun h_13 => ?_) (fun h_13 => ?_)
        ·
          refine v_aload_n fx 0 dX0_addCode_52 rfl rfl ?_
          refine v_dup fx dX0_addCode_53 rfl rfl ?_
          refine v_get fx 0 1 inX0 k122 dX0_addCode_54 rfl rfl (by decide) rfl rfl rfl ?_
          refine v_iconst fx dX0_addCode_57 rfl ?_
          refine v_iadd fx (c1 + 1) dX0_addCode_58 (by rfl) rfl ?_
          refine v_put fx 0 1 [(h0, ob 0 [.ref bb, .int (iI (c1 + 1)), .int (iI pl), .int (iI tu)]), (bb, aB g nn f1)] inX0 tyX0_ok nmX0 k122 dX0_addCode_59 rfl rfl (by decide) rfl rfl rfl rfl (nl rfl) rfl rfl ?_
          refine v_iload_n fx 2 dX0_addCode_62 rfl rfl ?_
          refine v_iconst fx dX0_addCode_63 rfl ?_
          refine v_ishr fx (iI (b / 2)) dX0_addCode_64 (iI_shr (k := 1) (by omega) _ (by decide)) rfl ?_
          refine v_istore_n fx [(2, .int (iI (b / 2))), (0, .ref h0), (1, .int (iI x))] dX0_addCode_65 (by decide) rfl rfl ?_
          refine v_goto fx 13 dX0_addCode_66 (by decide) ?_
          refine v_lv [1, 2, 0] [(0, .ref h0), (1, .int (iI x)), (2, .int (iI (b / 2)))] rfl ?_
          exact ihL13 i1 (b / 2) (c1 + 1) f1 (by assumption) (by omega) (by omega) (by omega) (by first | exact hi13_4 | exact bF_updE (by assumption) hi13_4) (by omega)
        ·
          refine v_aload_n fx 0 dX0_addCode_23 rfl rfl ?_
          refine v_get fx 0 0 inX0 k121 dX0_addCode_24 rfl rfl (by decide) rfl rfl rfl ?_
          refine v_aload_n fx 0 dX0_addCode_27 rfl rfl ?_
          refine v_get fx 0 1 inX0 k122 dX0_addCode_28 rfl rfl (by decide) rfl rfl rfl ?_
          refine v_iconst fx dX0_addCode_31 rfl ?_
          refine v_ishr fx (iI (c1 / 8)) dX0_addCode_32 (iI_shr (k := 3) (by omega) _ (by decide)) rfl ?_
          refine v_dup2 fx dX0_addCode_33 rfl rfl rfl ?_
          refine v_bald fx 1 dX0_addCode_34 rfl (by omega) (by omega) rfl ?_
          refine v_iconst fx dX0_addCode_35 rfl ?_
          refine v_aload_n fx 0 dX0_addCode_36 rfl rfl ?_
          refine v_get fx 0 1 inX0 k122 dX0_addCode_37 rfl rfl (by decide) rfl rfl rfl ?_
          refine v_bipush fx dX0_addCode_40 (by decide +kernel) rfl ?_
          refine v_iand fx (iI (c1 % 8)) dX0_addCode_42 (iI_and (by omega) 3 (by decide +kernel)) rfl ?_
          refine v_aload_n fx 0 dX0_addCode_43 rfl rfl ?_
          refine v_get fx 0 3 inX0 k124 dX0_addCode_44 rfl rfl (by decide) rfl rfl rfl ?_
          obtain ⟨t_14, et_14⟩ : ∃ x9 : Int32, (iI (c1 % 8)) ^^^ (iI tu) = x9 := ⟨_, rfl⟩
          refine v_ixor fx t_14 dX0_addCode_47 et_14 rfl ?_
          obtain ⟨t_15, et_15⟩ : ∃ x9 : Int32, (iI 1) <<< (t_14 &&& 31) = x9 := ⟨_, rfl⟩
          refine v_ishl fx t_15 dX0_addCode_48 et_15 rfl ?_
          obtain ⟨t_16, et_16⟩ : ∃ x9 : Int32, (f1 (c1 / 8).toNat) ||| t_15 = x9 := ⟨_, rfl⟩
          refine v_ior fx t_16 dX0_addCode_49 et_16 rfl ?_
          refine v_i2b fx ((t_16).toInt8.toInt32) dX0_addCode_50 rfl rfl ?_
          obtain ⟨f_17, ef_17⟩ : ∃ f9 : Nat → Int32, upd f1 (c1 / 8).toNat (vp_nar .byte ((t_16).toInt8.toInt32)) = f9 := ⟨_, rfl⟩
          refine v_bast fx 1 f_17 [(h0, ob 0 [.ref bb, .int (iI c1), .int (iI pl), .int (iI tu)]), (bb, aB g nn f_17)] dX0_addCode_51 rfl (by omega) (by omega) ef_17 rfl rfl ?_
          refine v_aload_n fx 0 dX0_addCode_52 rfl rfl ?_
          refine v_dup fx dX0_addCode_53 rfl rfl ?_
          refine v_get fx 0 1 inX0 k122 dX0_addCode_54 rfl rfl (by decide) rfl rfl rfl ?_
          refine v_iconst fx dX0_addCode_57 rfl ?_
          refine v_iadd fx (c1 + 1) dX0_addCode_58 (by rfl) rfl ?_
          refine v_put fx 0 1 [(h0, ob 0 [.ref bb, .int (iI (c1 + 1)), .int (iI pl), .int (iI tu)]), (bb, aB g nn f_17)] inX0 tyX0_ok nmX0 k122 dX0_addCode_59 rfl rfl (by decide) rfl rfl rfl rfl (nl rfl) rfl rfl ?_
          refine v_iload_n fx 2 dX0_addCode_62 rfl rfl ?_
          refine v_iconst fx dX0_addCode_63 rfl ?_
          refine v_ishr fx (iI (b / 2)) dX0_addCode_64 (iI_shr (k := 1) (by omega) _ (by decide)) rfl ?_
          refine v_istore_n fx [(2, .int (iI (b / 2))), (0, .ref h0), (1, .int (iI x))] dX0_addCode_65 (by decide) rfl rfl ?_
          refine v_goto fx 13 dX0_addCode_66 (by decide) ?_
          refine v_lv [1, 2, 0] [(0, .ref h0), (1, .int (iI x)), (2, .int (iI (b / 2)))] rfl ?_
          exact ihL13 i1 (b / 2) (c1 + 1) f_17 (by assumption) (by omega) (by omega) (by omega) (by first | exact hi13_4 | exact bF_updE (by assumption) hi13_4) (by omega)
  refine v_lv [1, 2, 0] [(0, .ref h0), (1, .int (iI x)), (2, .int (iI (t_1 / 2)))] rfl ?_
  exact L13 _ (clen x) (t_1 / 2) c ff (by unfold hb2; omega) (by omega) (by omega) (by omega) (by exact hbF0) (Nat.lt_succ_self _)
theorem dX0_isOne_0 : decode cX0_isOne 0 = .ok (.aload_n 0, 1) := by decide +kernel
theorem dX0_isOne_1 : decode cX0_isOne 1 = .ok (.getfield 32, 3) := by decide +kernel
theorem dX0_isOne_4 : decode cX0_isOne 4 = .ok (.iload_n 1, 1) := by decide +kernel
theorem dX0_isOne_5 : decode cX0_isOne 5 = .ok (.iadd, 1) := by decide +kernel
theorem dX0_isOne_6 : decode cX0_isOne 6 = .ok (.istore_n 2, 1) := by decide +kernel
theorem dX0_isOne_7 : decode cX0_isOne 7 = .ok (.iload_n 2, 1) := by decide +kernel
theorem dX0_isOne_8 : decode cX0_isOne 8 = .ok (.ifCond .lt 39, 3) := by decide +kernel
theorem dX0_isOne_11 : decode cX0_isOne 11 = .ok (.iload_n 2, 1) := by decide +kernel
theorem dX0_isOne_12 : decode cX0_isOne 12 = .ok (.aload_n 0, 1) := by decide +kernel
theorem dX0_isOne_13 : decode cX0_isOne 13 = .ok (.getfield 29, 3) := by decide +kernel
theorem dX0_isOne_16 : decode cX0_isOne 16 = .ok (.if_icmp .ge 31, 3) := by decide +kernel
theorem dX0_isOne_19 : decode cX0_isOne 19 = .ok (.aload_n 0, 1) := by decide +kernel
theorem dX0_isOne_20 : decode cX0_isOne 20 = .ok (.getfield 9, 3) := by decide +kernel
theorem dX0_isOne_23 : decode cX0_isOne 23 = .ok (.iload_n 2, 1) := by decide +kernel
theorem dX0_isOne_24 : decode cX0_isOne 24 = .ok (.iconst 3, 1) := by decide +kernel
theorem dX0_isOne_25 : decode cX0_isOne 25 = .ok (.ishr, 1) := by decide +kernel
theorem dX0_isOne_26 : decode cX0_isOne 26 = .ok (.baload, 1) := by decide +kernel
theorem dX0_isOne_27 : decode cX0_isOne 27 = .ok (.iload_n 2, 1) := by decide +kernel
theorem dX0_isOne_28 : decode cX0_isOne 28 = .ok (.bipush 7, 2) := by decide +kernel
theorem dX0_isOne_30 : decode cX0_isOne 30 = .ok (.iand, 1) := by decide +kernel
theorem dX0_isOne_31 : decode cX0_isOne 31 = .ok (.aload_n 0, 1) := by decide +kernel
theorem dX0_isOne_32 : decode cX0_isOne 32 = .ok (.getfield 15, 3) := by decide +kernel
theorem dX0_isOne_35 : decode cX0_isOne 35 = .ok (.ixor, 1) := by decide +kernel
theorem dX0_isOne_36 : decode cX0_isOne 36 = .ok (.ishr, 1) := by decide +kernel
theorem dX0_isOne_37 : decode cX0_isOne 37 = .ok (.iconst 1, 1) := by decide +kernel
theorem dX0_isOne_38 : decode cX0_isOne 38 = .ok (.iand, 1) := by decide +kernel
theorem dX0_isOne_39 : decode cX0_isOne 39 = .ok (.iconst 1, 1) := by decide +kernel
theorem dX0_isOne_40 : decode cX0_isOne 40 = .ok (.if_icmp .ne 7, 3) := by decide +kernel
theorem dX0_isOne_43 : decode cX0_isOne 43 = .ok (.iconst 1, 1) := by decide +kernel
theorem dX0_isOne_44 : decode cX0_isOne 44 = .ok (.goto 4, 3) := by decide +kernel
theorem dX0_isOne_47 : decode cX0_isOne 47 = .ok (.iconst 0, 1) := by decide +kernel
theorem dX0_isOne_48 : decode cX0_isOne 48 = .ok (.ireturn, 1) := by decide +kernel
abbrev po_c_X0_isOne (g : GG) (h0 : Nat) (ba : Nat) (n : Nat) (f : Nat → Int32) (c : Int) (pl : Int) (tu : Int) (x : Int) : Option Value → va_W → Prop := fun v8 w8 => ∃ r : Int, v8 = some (.int (iI r)) ∧ w8 = [(h0, ob 0 [.ref ba, .int (iI c), .int (iI pl), .int (iI tu)]), (ba, aB g n f)] ∧ ((r = 1 ∧ 0 ≤ pl + x ∧ pl + x < c) ∨ r = 0)
set_option maxHeartbeats 4000000 in
set_option maxRecDepth 100000 in
theorem c_X0_isOne (l : Launch) (g : GG) (h0 : Nat) (ba : Nat) (n : Nat) (f : Nat → Int32) (c : Int) (pl : Int) (tu : Int) (x : Int) (hp0 : 0 ≤ c ∧ c ≤ 8 * (n : Int) ∧ 64 ≤ n ∧ n ≤ 130000) (hp1 : bF f) (hp2 : 0 ≤ pl ∧ pl ≤ c) (hp3 : -10000000 ≤ x ∧ x ≤ 10000000) : Ct l g yX0_isOne (wM yX0_isOne cX0_isOne 3 (some .boolean)) (rmD 0 0 0) [.ref h0, .int (iI x)] [(h0, ob 0 [.ref ba, .int (iI c), .int (iI pl), .int (iI tu)]), (ba, aB g n f)] (po_c_X0_isOne g h0 ba n f c pl tu x) := by
  refine Ct_of (by decide +kernel) (Nat.le_of_ble_eq_true rfl) ?_
  intro p9 e9 s9 m9 ag9 bl9 mt9 c9 A9 fx hr hnm
  refine v_aload_n fx 0 dX0_isOne_0 rfl rfl ?_
  refine v_get fx 0 2 inX0 k123 dX0_isOne_1 rfl rfl (by decide) rfl rfl rfl ?_
  refine v_iload_n fx 1 dX0_isOne_4 rfl rfl ?_
  refine v_iadd fx (pl + x) dX0_isOne_5 (by rfl) rfl ?_
  refine v_istore_n fx [(2, .int (iI (pl + x))), (0, .ref h0), (1, .int (iI x))] dX0_isOne_6 (by decide) rfl rfl ?_
  refine v_iload_n fx 0 dX0_isOne_7 rfl rfl ?_
  refine v_if_lt fx 47 dX0_isOne_8 (by decide) rfl (by omega) (fun h_1 => ?_) (fun h_1 => ?_)
  ·
    refine v_iconst fx dX0_isOne_47 rfl ?_
    exact v_zret fx [(h0, ob 0 [.ref ba, .int (iI c), .int (iI pl), .int (iI tu)]), (ba, aB g n f)] [0, 1] hr dX0_isOne_48 (by first | rfl | exact nar_z _ (by omega)) rfl rfl (nl rfl) (nl rfl) ⟨0, rfl, rfl, (by first | omega | rfl | assumption)⟩
  ·
    refine v_iload_n fx 0 dX0_isOne_11 rfl rfl ?_
    refine v_aload_n fx 1 dX0_isOne_12 rfl rfl ?_
    refine v_get fx 0 1 inX0 k122 dX0_isOne_13 rfl rfl (by decide) rfl rfl rfl ?_
    refine v_icmp_ge fx 47 dX0_isOne_16 (by decide) rfl (by omega) (by omega) (fun h_2 => ?_) (fun h_2 => ?_)
    ·
      refine v_iconst fx dX0_isOne_47 rfl ?_
      exact v_zret fx [(h0, ob 0 [.ref ba, .int (iI c), .int (iI pl), .int (iI tu)]), (ba, aB g n f)] [0, 1] hr dX0_isOne_48 (by first | rfl | exact nar_z _ (by omega)) rfl rfl (nl rfl) (nl rfl) ⟨0, rfl, rfl, (by first | omega | rfl | assumption)⟩
    ·
      refine v_aload_n fx 1 dX0_isOne_19 rfl rfl ?_
      refine v_get fx 0 0 inX0 k121 dX0_isOne_20 rfl rfl (by decide) rfl rfl rfl ?_
      refine v_iload_n fx 0 dX0_isOne_23 rfl rfl ?_
      refine v_iconst fx dX0_isOne_24 rfl ?_
      refine v_ishr fx (iI ((pl + x) / 8)) dX0_isOne_25 (iI_shr (k := 3) (by omega) _ (by decide)) rfl ?_
      refine v_bald fx 1 dX0_isOne_26 rfl (by omega) (by omega) rfl ?_
      refine v_iload_n fx 0 dX0_isOne_27 rfl rfl ?_
      refine v_bipush fx dX0_isOne_28 (by decide +kernel) rfl ?_
      refine v_iand fx (iI ((pl + x) % 8)) dX0_isOne_30 (iI_and (by omega) 3 (by decide +kernel)) rfl ?_
      refine v_aload_n fx 1 dX0_isOne_31 rfl rfl ?_
      refine v_get fx 0 3 inX0 k124 dX0_isOne_32 rfl rfl (by decide) rfl rfl rfl ?_
      obtain ⟨t_3, et_3⟩ : ∃ x9 : Int32, (iI ((pl + x) % 8)) ^^^ (iI tu) = x9 := ⟨_, rfl⟩
      refine v_ixor fx t_3 dX0_isOne_35 et_3 rfl ?_
      obtain ⟨t_4, et_4⟩ : ∃ x9 : Int32, (f ((pl + x) / 8).toNat) >>> (t_3 &&& 31) = x9 := ⟨_, rfl⟩
      refine v_ishr fx t_4 dX0_isOne_36 et_4 rfl ?_
      refine v_iconst fx dX0_isOne_37 rfl ?_
      obtain ⟨t_5, et_5⟩ : ∃ x9 : Int32, t_4 &&& (iI 1) = x9 := ⟨_, rfl⟩
      refine v_iand fx t_5 dX0_isOne_38 et_5 rfl ?_
      refine v_any (fun z_6 hz_6 ez_6 => ?_)
      refine v_iconst fx dX0_isOne_39 rfl ?_
      refine v_icmp_ne fx 47 dX0_isOne_40 (by decide) rfl (by omega) (by omega) (fun h_7 => ?_) (fun h_7 => ?_)
      ·
        refine v_iconst fx dX0_isOne_47 rfl ?_
        exact v_zret fx [(h0, ob 0 [.ref ba, .int (iI c), .int (iI pl), .int (iI tu)]), (ba, aB g n f)] [0, 1] hr dX0_isOne_48 (by first | rfl | exact nar_z _ (by omega)) rfl rfl (nl rfl) (nl rfl) ⟨0, rfl, rfl, (by first | omega | rfl | assumption)⟩
      ·
        refine v_iconst fx dX0_isOne_43 rfl ?_
        refine v_goto fx 48 dX0_isOne_44 (by decide) ?_
        exact v_zret fx [(h0, ob 0 [.ref ba, .int (iI c), .int (iI pl), .int (iI tu)]), (ba, aB g n f)] [0, 1] hr dX0_isOne_48 (by first | rfl | exact nar_z _ (by omega)) rfl rfl (nl rfl) (nl rfl) ⟨1, rfl, rfl, (by first | omega | rfl | assumption)⟩
theorem dX0_zerosAhead_0 : decode cX0_zerosAhead 0 = .ok (.aload_n 0, 1) := by decide +kernel
theorem dX0_zerosAhead_1 : decode cX0_zerosAhead 1 = .ok (.getfield 32, 3) := by decide +kernel
theorem dX0_zerosAhead_4 : decode cX0_zerosAhead 4 = .ok (.iload_n 1, 1) := by decide +kernel
theorem dX0_zerosAhead_5 : decode cX0_zerosAhead 5 = .ok (.iadd, 1) := by decide +kernel
theorem dX0_zerosAhead_6 : decode cX0_zerosAhead 6 = .ok (.istore_n 2, 1) := by decide +kernel
theorem dX0_zerosAhead_7 : decode cX0_zerosAhead 7 = .ok (.iload_n 2, 1) := by decide +kernel
theorem dX0_zerosAhead_8 : decode cX0_zerosAhead 8 = .ok (.istore_n 3, 1) := by decide +kernel
theorem dX0_zerosAhead_9 : decode cX0_zerosAhead 9 = .ok (.iload_n 3, 1) := by decide +kernel
theorem dX0_zerosAhead_10 : decode cX0_zerosAhead 10 = .ok (.aload_n 0, 1) := by decide +kernel
theorem dX0_zerosAhead_11 : decode cX0_zerosAhead 11 = .ok (.getfield 29, 3) := by decide +kernel
theorem dX0_zerosAhead_14 : decode cX0_zerosAhead 14 = .ok (.if_icmp .ge 51, 3) := by decide +kernel
theorem dX0_zerosAhead_17 : decode cX0_zerosAhead 17 = .ok (.aload_n 0, 1) := by decide +kernel
theorem dX0_zerosAhead_18 : decode cX0_zerosAhead 18 = .ok (.iload_n 3, 1) := by decide +kernel
theorem dX0_zerosAhead_19 : decode cX0_zerosAhead 19 = .ok (.aload_n 0, 1) := by decide +kernel
theorem dX0_zerosAhead_20 : decode cX0_zerosAhead 20 = .ok (.getfield 32, 3) := by decide +kernel
theorem dX0_zerosAhead_23 : decode cX0_zerosAhead 23 = .ok (.isub, 1) := by decide +kernel
theorem dX0_zerosAhead_24 : decode cX0_zerosAhead 24 = .ok (.invokevirtual 49, 3) := by decide +kernel
theorem dX0_zerosAhead_27 : decode cX0_zerosAhead 27 = .ok (.ifCond .ne 38, 3) := by decide +kernel
theorem dX0_zerosAhead_30 : decode cX0_zerosAhead 30 = .ok (.iinc 3 1, 3) := by decide +kernel
theorem dX0_zerosAhead_33 : decode cX0_zerosAhead 33 = .ok (.iload_n 3, 1) := by decide +kernel
theorem dX0_zerosAhead_34 : decode cX0_zerosAhead 34 = .ok (.aload_n 0, 1) := by decide +kernel
theorem dX0_zerosAhead_35 : decode cX0_zerosAhead 35 = .ok (.getfield 29, 3) := by decide +kernel
theorem dX0_zerosAhead_38 : decode cX0_zerosAhead 38 = .ok (.if_icmp .ge (-29), 3) := by decide +kernel
theorem dX0_zerosAhead_41 : decode cX0_zerosAhead 41 = .ok (.iload_n 3, 1) := by decide +kernel
theorem dX0_zerosAhead_42 : decode cX0_zerosAhead 42 = .ok (.bipush 7, 2) := by decide +kernel
theorem dX0_zerosAhead_44 : decode cX0_zerosAhead 44 = .ok (.iand, 1) := by decide +kernel
theorem dX0_zerosAhead_45 : decode cX0_zerosAhead 45 = .ok (.ifCond .ne (-36), 3) := by decide +kernel
theorem dX0_zerosAhead_48 : decode cX0_zerosAhead 48 = .ok (.aload_n 0, 1) := by decide +kernel
theorem dX0_zerosAhead_49 : decode cX0_zerosAhead 49 = .ok (.getfield 9, 3) := by decide +kernel
theorem dX0_zerosAhead_52 : decode cX0_zerosAhead 52 = .ok (.iload_n 3, 1) := by decide +kernel
theorem dX0_zerosAhead_53 : decode cX0_zerosAhead 53 = .ok (.iconst 3, 1) := by decide +kernel
theorem dX0_zerosAhead_54 : decode cX0_zerosAhead 54 = .ok (.ishr, 1) := by decide +kernel
theorem dX0_zerosAhead_55 : decode cX0_zerosAhead 55 = .ok (.baload, 1) := by decide +kernel
theorem dX0_zerosAhead_56 : decode cX0_zerosAhead 56 = .ok (.ifCond .ne (-47), 3) := by decide +kernel
theorem dX0_zerosAhead_59 : decode cX0_zerosAhead 59 = .ok (.iinc 3 8, 3) := by decide +kernel
theorem dX0_zerosAhead_62 : decode cX0_zerosAhead 62 = .ok (.goto (-29), 3) := by decide +kernel
theorem dX0_zerosAhead_65 : decode cX0_zerosAhead 65 = .ok (.iload_n 3, 1) := by decide +kernel
theorem dX0_zerosAhead_66 : decode cX0_zerosAhead 66 = .ok (.aload_n 0, 1) := by decide +kernel
theorem dX0_zerosAhead_67 : decode cX0_zerosAhead 67 = .ok (.getfield 29, 3) := by decide +kernel
theorem dX0_zerosAhead_70 : decode cX0_zerosAhead 70 = .ok (.invokestatic 53, 3) := by decide +kernel
theorem dX0_zerosAhead_73 : decode cX0_zerosAhead 73 = .ok (.iload_n 2, 1) := by decide +kernel
theorem dX0_zerosAhead_74 : decode cX0_zerosAhead 74 = .ok (.isub, 1) := by decide +kernel
theorem dX0_zerosAhead_75 : decode cX0_zerosAhead 75 = .ok (.ireturn, 1) := by decide +kernel
abbrev po_c_X0_zerosAhead (g : GG) (h0 : Nat) (ba : Nat) (n : Nat) (f : Nat → Int32) (c : Int) (pl : Int) (tu : Int) (x : Int) : Option Value → va_W → Prop := fun v8 w8 => ∃ r : Int, v8 = some (.int (iI r)) ∧ w8 = [(h0, ob 0 [.ref ba, .int (iI c), .int (iI pl), .int (iI tu)]), (ba, aB g n f)] ∧ (0 ≤ r ∧ pl + x + r ≤ c)
set_option maxHeartbeats 4000000 in
set_option maxRecDepth 100000 in
theorem c_X0_zerosAhead (l : Launch) (g : GG) (h0 : Nat) (ba : Nat) (n : Nat) (f : Nat → Int32) (c : Int) (pl : Int) (tu : Int) (x : Int) (hp0 : 0 ≤ c ∧ c ≤ 8 * (n : Int) ∧ 64 ≤ n ∧ n ≤ 130000) (hp1 : bF f) (hp2 : 0 ≤ pl ∧ pl ≤ c) (hp3 : 0 ≤ x ∧ pl + x ≤ c) : Ct l g yX0_zerosAhead (wM yX0_zerosAhead cX0_zerosAhead 4 (some .int)) (rmD 1 0 0) [.ref h0, .int (iI x)] [(h0, ob 0 [.ref ba, .int (iI c), .int (iI pl), .int (iI tu)]), (ba, aB g n f)] (po_c_X0_zerosAhead g h0 ba n f c pl tu x) := by
  refine Ct_of (by decide +kernel) (Nat.le_of_ble_eq_true rfl) ?_
  intro p9 e9 s9 m9 ag9 bl9 mt9 c9 A9 fx hr hnm
  refine v_aload_n fx 0 dX0_zerosAhead_0 rfl rfl ?_
  refine v_get fx 0 2 inX0 k123 dX0_zerosAhead_1 rfl rfl (by decide) rfl rfl rfl ?_
  refine v_iload_n fx 1 dX0_zerosAhead_4 rfl rfl ?_
  refine v_iadd fx (pl + x) dX0_zerosAhead_5 (by rfl) rfl ?_
  refine v_istore_n fx [(2, .int (iI (pl + x))), (0, .ref h0), (1, .int (iI x))] dX0_zerosAhead_6 (by decide) rfl rfl ?_
  refine v_iload_n fx 0 dX0_zerosAhead_7 rfl rfl ?_
  refine v_istore_n fx [(3, .int (iI (pl + x))), (2, .int (iI (pl + x))), (0, .ref h0), (1, .int (iI x))] dX0_zerosAhead_8 (by decide) rfl rfl ?_
  have L9 : ∀ (N : Nat) (i : Int), (pl + x ≤ i ∧ i ≤ c + 8) → ((c + 8 - i).toNat) < N → V p9 l e9 (rmD 1 0 0) s9 m9 ag9 bl9 mt9 c9 4 g A9 (MQ bl9 (cQ g (po_c_X0_zerosAhead g h0 ba n f c pl tu x) A9) ag9 s9 0 0 A9) [(h0, ob 0 [.ref ba, .int (iI c), .int (iI pl), .int (iI tu)]), (ba, aB g n f)] 0 0 [(0, .ref h0), (1, .int (iI x)), (2, .int (iI (pl + x))), (3, .int (iI i))] 9 [] := by
    intro N
    induction N with
    | zero => intro i hi9_0 hN; exact absurd hN (Nat.not_lt_zero _)
    | succ N ihL9 =>
      intro i hi9_0 hN9
      refine v_iload_n fx 3 dX0_zerosAhead_9 rfl rfl ?_
      refine v_aload_n fx 0 dX0_zerosAhead_10 rfl rfl ?_
      refine v_get fx 0 1 inX0 k122 dX0_zerosAhead_11 rfl rfl (by decide) rfl rfl rfl ?_
      refine v_icmp_ge fx 65 dX0_zerosAhead_14 (by decide) rfl (by omega) (by omega) (fun h_1 => ?_) (fun h_1 => ?_)
      ·
        refine v_iload_n fx 3 dX0_zerosAhead_65 rfl rfl ?_
        refine v_aload_n fx 0 dX0_zerosAhead_66 rfl rfl ?_
        refine v_get fx 0 1 inX0 k122 dX0_zerosAhead_67 rfl rfl (by decide) rfl rfl rfl ?_
        obtain ⟨z_2, ez_2⟩ : ∃ z9 : Int, (if c < i then c else i) = z9 := ⟨_, rfl⟩
        have hz_2 : (c < i ∧ z_2 = c) ∨ (¬ c < i ∧ z_2 = i) := by split at ez_2 <;> omega
        refine v_mmin fx (z_2) (by omega) (by omega) (ez_2) k900 k80 k47 k81 dX0_zerosAhead_70 (nl rfl) (nl rfl) (nl rfl) (nl rfl) (nl rfl) rfl ?_
        refine v_iload_n fx 2 dX0_zerosAhead_73 rfl rfl ?_
        refine v_isub fx (z_2 - (pl + x)) dX0_zerosAhead_74 (by rfl) rfl ?_
        exact v_iret fx [(h0, ob 0 [.ref ba, .int (iI c), .int (iI pl), .int (iI tu)]), (ba, aB g n f)] [0, 1] hr dX0_zerosAhead_75 rfl rfl (nl rfl) (nl rfl) ⟨(z_2 - (pl + x)), rfl, rfl, (by first | omega | rfl | assumption)⟩
      ·
        refine v_aload_n fx 0 dX0_zerosAhead_17 rfl rfl ?_
        refine v_iload_n fx 3 dX0_zerosAhead_18 rfl rfl ?_
        refine v_aload_n fx 0 dX0_zerosAhead_19 rfl rfl ?_
        refine v_get fx 0 2 inX0 k123 dX0_zerosAhead_20 rfl rfl (by decide) rfl rfl rfl ?_
        refine v_isub fx (i - pl) dX0_zerosAhead_23 (by rfl) rfl ?_
        refine v_callV (As := [.int (iI (i - pl))]) (rest := []) fx [0, 1] [] [(h0, ob 0 [.ref ba, .int (iI c), .int (iI pl), .int (iI tu)]), (ba, aB g n f)] [] 1 0 (c_X0_isOne l g h0 ba n f c pl tu (i - pl) (by first | omega | decide | assumption) (by exact hp1) (by first | omega | decide | assumption) (by first | omega | decide | assumption)) dX0_zerosAhead_24 k899 k831 k832 k50 k833 ykX0_isOne rfl rfl rfl rfl rfl rfl rfl rfl (nl rfl) ⟨nl rfl, nl rfl⟩ ⟨(nl rfl), (nl rfl)⟩ rfl (fun v9 w9 hu => ?_)
        obtain ⟨r_3, rfl, rfl, u_4⟩ := hu
        refine v_is (wn := [(h0, ob 0 [.ref ba, .int (iI c), .int (iI pl), .int (iI tu)]), (ba, aB g n f)]) (cn := 0) (sn := 0) (sn2 := [.int (iI r_3)]) rfl rfl rfl rfl ?_
        refine v_if_ne fx 65 dX0_zerosAhead_27 (by decide) rfl (by omega) (fun h_5 => ?_) (fun h_5 => ?_)
        ·
          refine v_iload_n fx 3 dX0_zerosAhead_65 rfl rfl ?_
          refine v_aload_n fx 0 dX0_zerosAhead_66 rfl rfl ?_
          refine v_get fx 0 1 inX0 k122 dX0_zerosAhead_67 rfl rfl (by decide) rfl rfl rfl ?_
          obtain ⟨z_6, ez_6⟩ : ∃ z9 : Int, (if c < i then c else i) = z9 := ⟨_, rfl⟩
          have hz_6 : (c < i ∧ z_6 = c) ∨ (¬ c < i ∧ z_6 = i) := by split at ez_6 <;> omega
          refine v_mmin fx (z_6) (by omega) (by omega) (ez_6) k900 k80 k47 k81 dX0_zerosAhead_70 (nl rfl) (nl rfl) (nl rfl) (nl rfl) (nl rfl) rfl ?_
          refine v_iload_n fx 2 dX0_zerosAhead_73 rfl rfl ?_
          refine v_isub fx (z_6 - (pl + x)) dX0_zerosAhead_74 (by rfl) rfl ?_
          exact v_iret fx [(h0, ob 0 [.ref ba, .int (iI c), .int (iI pl), .int (iI tu)]), (ba, aB g n f)] [0, 1] hr dX0_zerosAhead_75 rfl rfl (nl rfl) (nl rfl) ⟨(z_6 - (pl + x)), rfl, rfl, (by first | omega | rfl | assumption)⟩
        ·
          refine v_iinc fx 3 (i + 1) [(3, .int (iI (i + 1))), (0, .ref h0), (1, .int (iI x)), (2, .int (iI (pl + x)))] dX0_zerosAhead_30 rfl (by omega) (by decide) rfl rfl ?_
          have L33 : ∀ (N : Nat) (k : Int), (i + 1 ≤ k ∧ k ≤ c + 8) → ((c + 8 - k).toNat) < N → V p9 l e9 (rmD 1 0 0) s9 m9 ag9 bl9 mt9 c9 4 g A9 (MQ bl9 (cQ g (po_c_X0_zerosAhead g h0 ba n f c pl tu x) A9) ag9 s9 0 0 A9) [(h0, ob 0 [.ref ba, .int (iI c), .int (iI pl), .int (iI tu)]), (ba, aB g n f)] 0 0 [(0, .ref h0), (1, .int (iI x)), (2, .int (iI (pl + x))), (3, .int (iI k))] 33 [] := by
            intro N
            induction N with
            | zero => intro k hi33_0 hN; exact absurd hN (Nat.not_lt_zero _)
            | succ N ihL33 =>
              intro k hi33_0 hN33
              refine v_iload_n fx 3 dX0_zerosAhead_33 rfl rfl ?_
              refine v_aload_n fx 0 dX0_zerosAhead_34 rfl rfl ?_
              refine v_get fx 0 1 inX0 k122 dX0_zerosAhead_35 rfl rfl (by decide) rfl rfl rfl ?_
              refine v_icmp_ge fx 9 dX0_zerosAhead_38 (by decide) rfl (by omega) (by omega) (fun h_7 => ?_) (fun h_7 => ?_)
              ·
                exact ihL9 k (by omega) (by omega)
              ·
                refine v_iload_n fx 3 dX0_zerosAhead_41 rfl rfl ?_
                refine v_bipush fx dX0_zerosAhead_42 (by decide +kernel) rfl ?_
                refine v_iand fx (iI (k % 8)) dX0_zerosAhead_44 (iI_and (by omega) 3 (by decide +kernel)) rfl ?_
                refine v_if_ne fx 9 dX0_zerosAhead_45 (by decide) rfl (by omega) (fun h_8 => ?_) (fun h_8 => ?_)
                ·
                  exact ihL9 k (by omega) (by omega)
                ·
                  refine v_aload_n fx 0 dX0_zerosAhead_48 rfl rfl ?_
                  refine v_get fx 0 0 inX0 k121 dX0_zerosAhead_49 rfl rfl (by decide) rfl rfl rfl ?_
                  refine v_iload_n fx 3 dX0_zerosAhead_52 rfl rfl ?_
                  refine v_iconst fx dX0_zerosAhead_53 rfl ?_
                  refine v_ishr fx (iI (k / 8)) dX0_zerosAhead_54 (iI_shr (k := 3) (by omega) _ (by decide)) rfl ?_
                  refine v_bald fx 1 dX0_zerosAhead_55 rfl (by omega) (by omega) rfl ?_
                  refine v_any (fun z_9 hz_9 ez_9 => ?_)
                  refine v_if_ne fx 9 dX0_zerosAhead_56 (by decide) rfl (by omega) (fun h_10 => ?_) (fun h_10 => ?_)
                  ·
                    exact ihL9 k (by omega) (by omega)
                  ·
                    refine v_iinc fx 3 (k + 8) [(3, .int (iI (k + 8))), (0, .ref h0), (1, .int (iI x)), (2, .int (iI (pl + x)))] dX0_zerosAhead_59 rfl (by omega) (by decide) rfl rfl ?_
                    refine v_goto fx 33 dX0_zerosAhead_62 (by decide) ?_
                    refine v_lv [1, 2, 3, 0] [(0, .ref h0), (1, .int (iI x)), (2, .int (iI (pl + x))), (3, .int (iI (k + 8)))] rfl ?_
                    exact ihL33 (k + 8) (by omega) (by omega)
          refine v_lv [1, 2, 3, 0] [(0, .ref h0), (1, .int (iI x)), (2, .int (iI (pl + x))), (3, .int (iI (i + 1)))] rfl ?_
          exact L33 _ (i + 1) (by omega) (Nat.lt_succ_self _)
  refine v_lv [2, 3, 1, 0] [(0, .ref h0), (1, .int (iI x)), (2, .int (iI (pl + x))), (3, .int (iI (pl + x)))] rfl ?_
  exact L9 _ (pl + x) (by omega) (Nat.lt_succ_self _)
theorem dX0_isAtMark_0 : decode cX0_isAtMark 0 = .ok (.aload_n 0, 1) := by decide +kernel
theorem dX0_isAtMark_1 : decode cX0_isAtMark 1 = .ok (.iconst 0, 1) := by decide +kernel
theorem dX0_isAtMark_2 : decode cX0_isAtMark 2 = .ok (.invokevirtual 43, 3) := by decide +kernel
theorem dX0_isAtMark_5 : decode cX0_isAtMark 5 = .ok (.istore_n 1, 1) := by decide +kernel
theorem dX0_isAtMark_6 : decode cX0_isAtMark 6 = .ok (.iload_n 1, 1) := by decide +kernel
theorem dX0_isAtMark_7 : decode cX0_isAtMark 7 = .ok (.aload_n 0, 1) := by decide +kernel
theorem dX0_isAtMark_8 : decode cX0_isAtMark 8 = .ok (.invokevirtual 46, 3) := by decide +kernel
theorem dX0_isAtMark_11 : decode cX0_isAtMark 11 = .ok (.if_icmp .ge 13, 3) := by decide +kernel
theorem dX0_isAtMark_14 : decode cX0_isAtMark 14 = .ok (.iload_n 1, 1) := by decide +kernel
theorem dX0_isAtMark_15 : decode cX0_isAtMark 15 = .ok (.bipush 11, 2) := by decide +kernel
theorem dX0_isAtMark_17 : decode cX0_isAtMark 17 = .ok (.if_icmp .lt 7, 3) := by decide +kernel
theorem dX0_isAtMark_20 : decode cX0_isAtMark 20 = .ok (.iconst 1, 1) := by decide +kernel
theorem dX0_isAtMark_21 : decode cX0_isAtMark 21 = .ok (.goto 4, 3) := by decide +kernel
theorem dX0_isAtMark_24 : decode cX0_isAtMark 24 = .ok (.iconst 0, 1) := by decide +kernel
theorem dX0_isAtMark_25 : decode cX0_isAtMark 25 = .ok (.ireturn, 1) := by decide +kernel
abbrev po_c_X0_isAtMark (g : GG) (h0 : Nat) (ba : Nat) (n : Nat) (f : Nat → Int32) (c : Int) (pl : Int) (tu : Int) : Option Value → va_W → Prop := fun v8 w8 => ∃ r : Int, v8 = some (.int (iI r)) ∧ w8 = [(h0, ob 0 [.ref ba, .int (iI c), .int (iI pl), .int (iI tu)]), (ba, aB g n f)] ∧ (0 ≤ r ∧ r ≤ 1)
set_option maxHeartbeats 4000000 in
set_option maxRecDepth 100000 in
theorem c_X0_isAtMark (l : Launch) (g : GG) (h0 : Nat) (ba : Nat) (n : Nat) (f : Nat → Int32) (c : Int) (pl : Int) (tu : Int) (hp0 : 0 ≤ c ∧ c ≤ 8 * (n : Int) ∧ 64 ≤ n ∧ n ≤ 130000) (hp1 : bF f) (hp2 : 0 ≤ pl ∧ pl ≤ c) : Ct l g yX0_isAtMark (wM yX0_isAtMark cX0_isAtMark 2 (some .boolean)) (rmD 2 0 0) [.ref h0] [(h0, ob 0 [.ref ba, .int (iI c), .int (iI pl), .int (iI tu)]), (ba, aB g n f)] (po_c_X0_isAtMark g h0 ba n f c pl tu) := by
  refine Ct_of (by decide +kernel) (Nat.le_of_ble_eq_true rfl) ?_
  intro p9 e9 s9 m9 ag9 bl9 mt9 c9 A9 fx hr hnm
  refine v_aload_n fx 0 dX0_isAtMark_0 rfl rfl ?_
  refine v_iconst fx dX0_isAtMark_1 rfl ?_
  refine v_callV (As := [.int (iI 0)]) (rest := []) fx [0, 1] [] [(h0, ob 0 [.ref ba, .int (iI c), .int (iI pl), .int (iI tu)]), (ba, aB g n f)] [] 1 0 (c_X0_zerosAhead l g h0 ba n f c pl tu 0 (by first | omega | decide | assumption) (by exact hp1) (by first | omega | decide | assumption) (by first | omega | decide | assumption)) dX0_isAtMark_2 k895 k897 k19 k50 k898 ykX0_zerosAhead rfl rfl rfl rfl rfl rfl rfl rfl (nl rfl) ⟨nl rfl, nl rfl⟩ ⟨(nl rfl), (nl rfl)⟩ rfl (fun v9 w9 hu => ?_)
  obtain ⟨r_1, rfl, rfl, u_2⟩ := hu
  refine v_is (wn := [(h0, ob 0 [.ref ba, .int (iI c), .int (iI pl), .int (iI tu)]), (ba, aB g n f)]) (cn := 0) (sn := 0) (sn2 := [.int (iI r_1)]) rfl rfl rfl rfl ?_
  refine v_istore_n fx [(1, .int (iI r_1)), (0, .ref h0)] dX0_isAtMark_5 (by decide) rfl rfl ?_
  refine v_iload_n fx 0 dX0_isAtMark_6 rfl rfl ?_
  refine v_aload_n fx 1 dX0_isAtMark_7 rfl rfl ?_
  refine v_callV (As := []) (rest := [.int (iI r_1)]) fx [0] [1] [(h0, ob 0 [.ref ba, .int (iI c), .int (iI pl), .int (iI tu)])] [(ba, aB g n f)] 0 0 (c_X0_left l g h0 ba c pl tu ) dX0_isAtMark_8 k901 k821 k822 k50 k823 ykX0_left rfl rfl rfl rfl rfl rfl rfl rfl (nl rfl) ⟨nl rfl, nl rfl⟩ ⟨(nl rfl), (nl rfl)⟩ rfl (fun v9 w9 hu => ?_)
  obtain ⟨rfl, rfl⟩ := hu
  refine v_is (wn := [(ba, aB g n f), (h0, ob 0 [.ref ba, .int (iI c), .int (iI pl), .int (iI tu)])]) (cn := 0) (sn := 0) (sn2 := [.int (iI (c - pl)), .int (iI r_1)]) rfl rfl rfl rfl ?_
  refine v_icmp_ge fx 24 dX0_isAtMark_11 (by decide) rfl (by omega) (by omega) (fun h_3 => ?_) (fun h_3 => ?_)
  ·
    refine v_iconst fx dX0_isAtMark_24 rfl ?_
    exact v_zret fx [(h0, ob 0 [.ref ba, .int (iI c), .int (iI pl), .int (iI tu)]), (ba, aB g n f)] [1, 0] hr dX0_isAtMark_25 (by first | rfl | exact nar_z _ (by omega)) rfl rfl (nl rfl) (nl rfl) ⟨0, rfl, rfl, (by first | omega | rfl | assumption)⟩
  ·
    refine v_iload_n fx 0 dX0_isAtMark_14 rfl rfl ?_
    refine v_bipush fx dX0_isAtMark_15 (by decide +kernel) rfl ?_
    refine v_icmp_lt fx 24 dX0_isAtMark_17 (by decide) rfl (by omega) (by omega) (fun h_4 => ?_) (fun h_4 => ?_)
    ·
      refine v_iconst fx dX0_isAtMark_24 rfl ?_
      exact v_zret fx [(h0, ob 0 [.ref ba, .int (iI c), .int (iI pl), .int (iI tu)]), (ba, aB g n f)] [1, 0] hr dX0_isAtMark_25 (by first | rfl | exact nar_z _ (by omega)) rfl rfl (nl rfl) (nl rfl) ⟨0, rfl, rfl, (by first | omega | rfl | assumption)⟩
    ·
      refine v_iconst fx dX0_isAtMark_20 rfl ?_
      refine v_goto fx 25 dX0_isAtMark_21 (by decide) ?_
      exact v_zret fx [(h0, ob 0 [.ref ba, .int (iI c), .int (iI pl), .int (iI tu)]), (ba, aB g n f)] [1, 0] hr dX0_isAtMark_25 (by first | rfl | exact nar_z _ (by omega)) rfl rfl (nl rfl) (nl rfl) ⟨1, rfl, rfl, (by first | omega | rfl | assumption)⟩
theorem dX0_skipToMark_0 : decode cX0_skipToMark 0 = .ok (.iconst 0, 1) := by decide +kernel
theorem dX0_skipToMark_1 : decode cX0_skipToMark 1 = .ok (.istore_n 1, 1) := by decide +kernel
theorem dX0_skipToMark_2 : decode cX0_skipToMark 2 = .ok (.aload_n 0, 1) := by decide +kernel
theorem dX0_skipToMark_3 : decode cX0_skipToMark 3 = .ok (.iload_n 1, 1) := by decide +kernel
theorem dX0_skipToMark_4 : decode cX0_skipToMark 4 = .ok (.invokevirtual 43, 3) := by decide +kernel
theorem dX0_skipToMark_7 : decode cX0_skipToMark 7 = .ok (.istore_n 2, 1) := by decide +kernel
theorem dX0_skipToMark_8 : decode cX0_skipToMark 8 = .ok (.iload_n 1, 1) := by decide +kernel
theorem dX0_skipToMark_9 : decode cX0_skipToMark 9 = .ok (.iload_n 2, 1) := by decide +kernel
theorem dX0_skipToMark_10 : decode cX0_skipToMark 10 = .ok (.iadd, 1) := by decide +kernel
theorem dX0_skipToMark_11 : decode cX0_skipToMark 11 = .ok (.aload_n 0, 1) := by decide +kernel
theorem dX0_skipToMark_12 : decode cX0_skipToMark 12 = .ok (.invokevirtual 46, 3) := by decide +kernel
theorem dX0_skipToMark_15 : decode cX0_skipToMark 15 = .ok (.if_icmp .ge 24, 3) := by decide +kernel
theorem dX0_skipToMark_18 : decode cX0_skipToMark 18 = .ok (.iload_n 2, 1) := by decide +kernel
theorem dX0_skipToMark_19 : decode cX0_skipToMark 19 = .ok (.bipush 11, 2) := by decide +kernel
theorem dX0_skipToMark_21 : decode cX0_skipToMark 21 = .ok (.if_icmp .ge 18, 3) := by decide +kernel
theorem dX0_skipToMark_24 : decode cX0_skipToMark 24 = .ok (.iload_n 1, 1) := by decide +kernel
theorem dX0_skipToMark_25 : decode cX0_skipToMark 25 = .ok (.iload_n 2, 1) := by decide +kernel
theorem dX0_skipToMark_26 : decode cX0_skipToMark 26 = .ok (.iconst 1, 1) := by decide +kernel
theorem dX0_skipToMark_27 : decode cX0_skipToMark 27 = .ok (.iadd, 1) := by decide +kernel
theorem dX0_skipToMark_28 : decode cX0_skipToMark 28 = .ok (.iadd, 1) := by decide +kernel
theorem dX0_skipToMark_29 : decode cX0_skipToMark 29 = .ok (.istore_n 1, 1) := by decide +kernel
theorem dX0_skipToMark_30 : decode cX0_skipToMark 30 = .ok (.aload_n 0, 1) := by decide +kernel
theorem dX0_skipToMark_31 : decode cX0_skipToMark 31 = .ok (.iload_n 1, 1) := by decide +kernel
theorem dX0_skipToMark_32 : decode cX0_skipToMark 32 = .ok (.invokevirtual 43, 3) := by decide +kernel
theorem dX0_skipToMark_35 : decode cX0_skipToMark 35 = .ok (.istore_n 2, 1) := by decide +kernel
theorem dX0_skipToMark_36 : decode cX0_skipToMark 36 = .ok (.goto (-28), 3) := by decide +kernel
theorem dX0_skipToMark_39 : decode cX0_skipToMark 39 = .ok (.iload_n 1, 1) := by decide +kernel
theorem dX0_skipToMark_40 : decode cX0_skipToMark 40 = .ok (.iload_n 2, 1) := by decide +kernel
theorem dX0_skipToMark_41 : decode cX0_skipToMark 41 = .ok (.iadd, 1) := by decide +kernel
theorem dX0_skipToMark_42 : decode cX0_skipToMark 42 = .ok (.aload_n 0, 1) := by decide +kernel
theorem dX0_skipToMark_43 : decode cX0_skipToMark 43 = .ok (.invokevirtual 46, 3) := by decide +kernel
theorem dX0_skipToMark_46 : decode cX0_skipToMark 46 = .ok (.if_icmp .lt 5, 3) := by decide +kernel
theorem dX0_skipToMark_49 : decode cX0_skipToMark 49 = .ok (.iconst 0, 1) := by decide +kernel
theorem dX0_skipToMark_50 : decode cX0_skipToMark 50 = .ok (.ireturn, 1) := by decide +kernel
theorem dX0_skipToMark_51 : decode cX0_skipToMark 51 = .ok (.aload_n 0, 1) := by decide +kernel
theorem dX0_skipToMark_52 : decode cX0_skipToMark 52 = .ok (.dup, 1) := by decide +kernel
theorem dX0_skipToMark_53 : decode cX0_skipToMark 53 = .ok (.getfield 32, 3) := by decide +kernel
theorem dX0_skipToMark_56 : decode cX0_skipToMark 56 = .ok (.iload_n 1, 1) := by decide +kernel
theorem dX0_skipToMark_57 : decode cX0_skipToMark 57 = .ok (.iload_n 2, 1) := by decide +kernel
theorem dX0_skipToMark_58 : decode cX0_skipToMark 58 = .ok (.iadd, 1) := by decide +kernel
theorem dX0_skipToMark_59 : decode cX0_skipToMark 59 = .ok (.iconst 1, 1) := by decide +kernel
theorem dX0_skipToMark_60 : decode cX0_skipToMark 60 = .ok (.iadd, 1) := by decide +kernel
theorem dX0_skipToMark_61 : decode cX0_skipToMark 61 = .ok (.iadd, 1) := by decide +kernel
theorem dX0_skipToMark_62 : decode cX0_skipToMark 62 = .ok (.putfield 32, 3) := by decide +kernel
theorem dX0_skipToMark_65 : decode cX0_skipToMark 65 = .ok (.iconst 1, 1) := by decide +kernel
theorem dX0_skipToMark_66 : decode cX0_skipToMark 66 = .ok (.ireturn, 1) := by decide +kernel
abbrev po_c_X0_skipToMark (g : GG) (h0 : Nat) (ba : Nat) (n : Nat) (f : Nat → Int32) (c : Int) (pl : Int) (tu : Int) : Option Value → va_W → Prop := fun v8 w8 => ∃ r : Int, ∃ p2_ : Int, v8 = some (.int (iI r)) ∧ w8 = [(h0, ob 0 [.ref ba, .int (iI c), .int (iI p2_), .int (iI tu)]), (ba, aB g n f)] ∧ ((r = 1 ∧ pl < p2_ ∧ p2_ ≤ c) ∨ (r = 0 ∧ p2_ = pl))
set_option maxHeartbeats 4000000 in
set_option maxRecDepth 100000 in
theorem c_X0_skipToMark (l : Launch) (g : GG) (h0 : Nat) (ba : Nat) (n : Nat) (f : Nat → Int32) (c : Int) (pl : Int) (tu : Int) (hp0 : 0 ≤ c ∧ c ≤ 8 * (n : Int) ∧ 64 ≤ n ∧ n ≤ 130000) (hp1 : bF f) (hp2 : 0 ≤ pl ∧ pl ≤ c) : Ct l g yX0_skipToMark (wM yX0_skipToMark cX0_skipToMark 3 (some .boolean)) (rmD 2 0 0) [.ref h0] [(h0, ob 0 [.ref ba, .int (iI c), .int (iI pl), .int (iI tu)]), (ba, aB g n f)] (po_c_X0_skipToMark g h0 ba n f c pl tu) := by
  refine Ct_of (by decide +kernel) (Nat.le_of_ble_eq_true rfl) ?_
  intro p9 e9 s9 m9 ag9 bl9 mt9 c9 A9 fx hr hnm
  refine v_iconst fx dX0_skipToMark_0 rfl ?_
  refine v_istore_n fx [(1, .int (iI 0)), (0, .ref h0)] dX0_skipToMark_1 (by decide) rfl rfl ?_
  refine v_aload_n fx 1 dX0_skipToMark_2 rfl rfl ?_
  refine v_iload_n fx 0 dX0_skipToMark_3 rfl rfl ?_
  refine v_callV (As := [.int (iI 0)]) (rest := []) fx [0, 1] [] [(h0, ob 0 [.ref ba, .int (iI c), .int (iI pl), .int (iI tu)]), (ba, aB g n f)] [] 1 0 (c_X0_zerosAhead l g h0 ba n f c pl tu 0 (by first | omega | decide | assumption) (by exact hp1) (by first | omega | decide | assumption) (by first | omega | decide | assumption)) dX0_skipToMark_4 k895 k897 k19 k50 k898 ykX0_zerosAhead rfl rfl rfl rfl rfl rfl rfl rfl (nl rfl) ⟨nl rfl, nl rfl⟩ ⟨(nl rfl), (nl rfl)⟩ rfl (fun v9 w9 hu => ?_)
  obtain ⟨r_1, rfl, rfl, u_2⟩ := hu
  refine v_is (wn := [(h0, ob 0 [.ref ba, .int (iI c), .int (iI pl), .int (iI tu)]), (ba, aB g n f)]) (cn := 0) (sn := 0) (sn2 := [.int (iI r_1)]) rfl rfl rfl rfl ?_
  refine v_istore_n fx [(2, .int (iI r_1)), (1, .int (iI 0)), (0, .ref h0)] dX0_skipToMark_7 (by decide) rfl rfl ?_
  have L8 : ∀ (N : Nat) (a : Int) (z : Int), (0 ≤ a ∧ 0 ≤ z ∧ pl + a + z ≤ c) → ((c - pl - a).toNat) < N → V p9 l e9 (rmD 2 0 0) s9 m9 ag9 bl9 mt9 c9 3 g A9 (MQ bl9 (cQ g (po_c_X0_skipToMark g h0 ba n f c pl tu) A9) ag9 s9 0 0 A9) [(h0, ob 0 [.ref ba, .int (iI c), .int (iI pl), .int (iI tu)]), (ba, aB g n f)] 0 0 [(0, .ref h0), (1, .int (iI a)), (2, .int (iI z))] 8 [] := by
    intro N
    induction N with
    | zero => intro a z hi8_0 hN; exact absurd hN (Nat.not_lt_zero _)
    | succ N ihL8 =>
      intro a z hi8_0 hN8
      refine v_iload_n fx 1 dX0_skipToMark_8 rfl rfl ?_
      refine v_iload_n fx 2 dX0_skipToMark_9 rfl rfl ?_
      refine v_iadd fx (a + z) dX0_skipToMark_10 (by rfl) rfl ?_
      refine v_aload_n fx 0 dX0_skipToMark_11 rfl rfl ?_
      refine v_callV (As := []) (rest := [.int (iI (a + z))]) fx [0] [1] [(h0, ob 0 [.ref ba, .int (iI c), .int (iI pl), .int (iI tu)])] [(ba, aB g n f)] 0 0 (c_X0_left l g h0 ba c pl tu ) dX0_skipToMark_12 k901 k821 k822 k50 k823 ykX0_left rfl rfl rfl rfl rfl rfl rfl rfl (nl rfl) ⟨nl rfl, nl rfl⟩ ⟨(nl rfl), (nl rfl)⟩ rfl (fun v9 w9 hu => ?_)
      obtain ⟨rfl, rfl⟩ := hu
      refine v_is (wn := [(ba, aB g n f), (h0, ob 0 [.ref ba, .int (iI c), .int (iI pl), .int (iI tu)])]) (cn := 0) (sn := 0) (sn2 := [.int (iI (c - pl)), .int (iI (a + z))]) rfl rfl rfl rfl ?_
      refine v_icmp_ge fx 39 dX0_skipToMark_15 (by decide) rfl (by omega) (by omega) (fun h_3 => ?_) (fun h_3 => ?_)
      ·
        refine v_iload_n fx 1 dX0_skipToMark_39 rfl rfl ?_
        refine v_iload_n fx 2 dX0_skipToMark_40 rfl rfl ?_
        refine v_iadd fx (a + z) dX0_skipToMark_41 (by rfl) rfl ?_
        refine v_aload_n fx 0 dX0_skipToMark_42 rfl rfl ?_
        refine v_callV (As := []) (rest := [.int (iI (a + z))]) fx [1] [0] [(h0, ob 0 [.ref ba, .int (iI c), .int (iI pl), .int (iI tu)])] [(ba, aB g n f)] 0 0 (c_X0_left l g h0 ba c pl tu ) dX0_skipToMark_43 k901 k821 k822 k50 k823 ykX0_left rfl rfl rfl rfl rfl rfl rfl rfl (nl rfl) ⟨nl rfl, nl rfl⟩ ⟨(nl rfl), (nl rfl)⟩ rfl (fun v9 w9 hu => ?_)
        obtain ⟨rfl, rfl⟩ := hu
        refine v_is (wn := [(ba, aB g n f), (h0, ob 0 [.ref ba, .int (iI c), .int (iI pl), .int (iI tu)])]) (cn := 0) (sn := 0) (sn2 := [.int (iI (c - pl)), .int (iI (a + z))]) rfl rfl rfl rfl ?_
        refine v_icmp_lt fx 51 dX0_skipToMark_46 (by decide) rfl (by omega) (by omega) (fun h_4 => ?_) (fun h_4 => ?_)
        ·
          refine v_aload_n fx 0 dX0_skipToMark_51 rfl rfl ?_
          refine v_dup fx dX0_skipToMark_52 rfl rfl ?_
          refine v_get fx 1 2 inX0 k123 dX0_skipToMark_53 rfl rfl (by decide) rfl rfl rfl ?_
          refine v_iload_n fx 1 dX0_skipToMark_56 rfl rfl ?_
          refine v_iload_n fx 2 dX0_skipToMark_57 rfl rfl ?_
          refine v_iadd fx (a + z) dX0_skipToMark_58 (by rfl) rfl ?_
          refine v_iconst fx dX0_skipToMark_59 rfl ?_
          refine v_iadd fx ((a + z) + 1) dX0_skipToMark_60 (by rfl) rfl ?_
          refine v_iadd fx (pl + ((a + z) + 1)) dX0_skipToMark_61 (by rfl) rfl ?_
          refine v_put fx 1 2 [(ba, aB g n f), (h0, ob 0 [.ref ba, .int (iI c), .int (iI (pl + ((a + z) + 1))), .int (iI tu)])] inX0 tyX0_ok nmX0 k123 dX0_skipToMark_62 rfl rfl (by decide) rfl rfl rfl rfl (nl rfl) rfl rfl ?_
          refine v_iconst fx dX0_skipToMark_65 rfl ?_
          exact v_zret fx [(h0, ob 0 [.ref ba, .int (iI c), .int (iI (pl + ((a + z) + 1))), .int (iI tu)]), (ba, aB g n f)] [1, 0] hr dX0_skipToMark_66 (by first | rfl | exact nar_z _ (by omega)) rfl rfl (nl rfl) (nl rfl) ⟨1, (pl + ((a + z) + 1)), rfl, rfl, (by first | omega | rfl | assumption)⟩
        ·
          refine v_iconst fx dX0_skipToMark_49 rfl ?_
          exact v_zret fx [(h0, ob 0 [.ref ba, .int (iI c), .int (iI pl), .int (iI tu)]), (ba, aB g n f)] [1, 0] hr dX0_skipToMark_50 (by first | rfl | exact nar_z _ (by omega)) rfl rfl (nl rfl) (nl rfl) ⟨0, pl, rfl, rfl, (by first | omega | rfl | assumption)⟩
      ·
        refine v_iload_n fx 2 dX0_skipToMark_18 rfl rfl ?_
        refine v_bipush fx dX0_skipToMark_19 (by decide +kernel) rfl ?_
        refine v_icmp_ge fx 39 dX0_skipToMark_21 (by decide) rfl (by omega) (by omega) (fun h_5 => ?_) (fun h_5 => ?_)
        ·
          refine v_iload_n fx 1 dX0_skipToMark_39 rfl rfl ?_
          refine v_iload_n fx 2 dX0_skipToMark_40 rfl rfl ?_
          refine v_iadd fx (a + z) dX0_skipToMark_41 (by rfl) rfl ?_
          refine v_aload_n fx 0 dX0_skipToMark_42 rfl rfl ?_
          refine v_callV (As := []) (rest := [.int (iI (a + z))]) fx [1] [0] [(h0, ob 0 [.ref ba, .int (iI c), .int (iI pl), .int (iI tu)])] [(ba, aB g n f)] 0 0 (c_X0_left l g h0 ba c pl tu ) dX0_skipToMark_43 k901 k821 k822 k50 k823 ykX0_left rfl rfl rfl rfl rfl rfl rfl rfl (nl rfl) ⟨nl rfl, nl rfl⟩ ⟨(nl rfl), (nl rfl)⟩ rfl (fun v9 w9 hu => ?_)
          obtain ⟨rfl, rfl⟩ := hu
          refine v_is (wn := [(ba, aB g n f), (h0, ob 0 [.ref ba, .int (iI c), .int (iI pl), .int (iI tu)])]) (cn := 0) (sn := 0) (sn2 := [.int (iI (c - pl)), .int (iI (a + z))]) rfl rfl rfl rfl ?_
          refine v_icmp_lt fx 51 dX0_skipToMark_46 (by decide) rfl (by omega) (by omega) (fun h_6 => ?_) (fun h_6 => ?_)
          ·
            refine v_aload_n fx 0 dX0_skipToMark_51 rfl rfl ?_
            refine v_dup fx dX0_skipToMark_52 rfl rfl ?_
            refine v_get fx 1 2 inX0 k123 dX0_skipToMark_53 rfl rfl (by decide) rfl rfl rfl ?_
            refine v_iload_n fx 1 dX0_skipToMark_56 rfl rfl ?_
            refine v_iload_n fx 2 dX0_skipToMark_57 rfl rfl ?_
            refine v_iadd fx (a + z) dX0_skipToMark_58 (by rfl) rfl ?_
            refine v_iconst fx dX0_skipToMark_59 rfl ?_
            refine v_iadd fx ((a + z) + 1) dX0_skipToMark_60 (by rfl) rfl ?_
            refine v_iadd fx (pl + ((a + z) + 1)) dX0_skipToMark_61 (by rfl) rfl ?_
            refine v_put fx 1 2 [(ba, aB g n f), (h0, ob 0 [.ref ba, .int (iI c), .int (iI (pl + ((a + z) + 1))), .int (iI tu)])] inX0 tyX0_ok nmX0 k123 dX0_skipToMark_62 rfl rfl (by decide) rfl rfl rfl rfl (nl rfl) rfl rfl ?_
            refine v_iconst fx dX0_skipToMark_65 rfl ?_
            exact v_zret fx [(h0, ob 0 [.ref ba, .int (iI c), .int (iI (pl + ((a + z) + 1))), .int (iI tu)]), (ba, aB g n f)] [1, 0] hr dX0_skipToMark_66 (by first | rfl | exact nar_z _ (by omega)) rfl rfl (nl rfl) (nl rfl) ⟨1, (pl + ((a + z) + 1)), rfl, rfl, (by first | omega | rfl | assumption)⟩
          ·
            refine v_iconst fx dX0_skipToMark_49 rfl ?_
            exact v_zret fx [(h0, ob 0 [.ref ba, .int (iI c), .int (iI pl), .int (iI tu)]), (ba, aB g n f)] [1, 0] hr dX0_skipToMark_50 (by first | rfl | exact nar_z _ (by omega)) rfl rfl (nl rfl) (nl rfl) ⟨0, pl, rfl, rfl, (by first | omega | rfl | assumption)⟩
        ·
          refine v_iload_n fx 1 dX0_skipToMark_24 rfl rfl ?_
          refine v_iload_n fx 2 dX0_skipToMark_25 rfl rfl ?_
          refine v_iconst fx dX0_skipToMark_26 rfl ?_
          refine v_iadd fx (z + 1) dX0_skipToMark_27 (by rfl) rfl ?_
          refine v_iadd fx (a + (z + 1)) dX0_skipToMark_28 (by rfl) rfl ?_
          refine v_istore_n fx [(1, .int (iI (a + (z + 1)))), (0, .ref h0), (2, .int (iI z))] dX0_skipToMark_29 (by decide) rfl rfl ?_
          refine v_aload_n fx 1 dX0_skipToMark_30 rfl rfl ?_
          refine v_iload_n fx 0 dX0_skipToMark_31 rfl rfl ?_
          refine v_callV (As := [.int (iI (a + (z + 1)))]) (rest := []) fx [1, 0] [] [(h0, ob 0 [.ref ba, .int (iI c), .int (iI pl), .int (iI tu)]), (ba, aB g n f)] [] 1 0 (c_X0_zerosAhead l g h0 ba n f c pl tu (a + (z + 1)) (by first | omega | decide | assumption) (by exact hp1) (by first | omega | decide | assumption) (by first | omega | decide | assumption)) dX0_skipToMark_32 k895 k897 k19 k50 k898 ykX0_zerosAhead rfl rfl rfl rfl rfl rfl rfl rfl (nl rfl) ⟨nl rfl, nl rfl⟩ ⟨(nl rfl), (nl rfl)⟩ rfl (fun v9 w9 hu => ?_)
          obtain ⟨r_7, rfl, rfl, u_8⟩ := hu
          refine v_is (wn := [(h0, ob 0 [.ref ba, .int (iI c), .int (iI pl), .int (iI tu)]), (ba, aB g n f)]) (cn := 0) (sn := 0) (sn2 := [.int (iI r_7)]) rfl rfl rfl rfl ?_
          refine v_istore_n fx [(2, .int (iI r_7)), (1, .int (iI (a + (z + 1)))), (0, .ref h0)] dX0_skipToMark_35 (by decide) rfl rfl ?_
          refine v_goto fx 8 dX0_skipToMark_36 (by decide) ?_
          refine v_lv [2, 1, 0] [(0, .ref h0), (1, .int (iI (a + (z + 1)))), (2, .int (iI r_7))] rfl ?_
          exact ihL8 (a + (z + 1)) r_7 (by omega) (by omega)
  refine v_lv [2, 1, 0] [(0, .ref h0), (1, .int (iI 0)), (2, .int (iI r_1))] rfl ?_
  exact L8 _ 0 r_1 (by omega) (Nat.lt_succ_self _)
