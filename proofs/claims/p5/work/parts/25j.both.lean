/-! THE LAW OF ENCODE AND BYTEAT: both sides together -/
theorem rowA_keep {F F2 : Nat → Int} {fi f2 fs : Nat → Int32} {n : Nat} {c c2 w y : Int} (hL : LB c F fs n) (hF : ∀ y : Nat, (y : Int) ≤ c → F2 y = F y) (hk : ∀ j : Nat, (j : Int) < F c.toNat → f2 j = fi j) (hc : c ≤ c2) (hy : -1 ≤ y ∧ y < c) : rowA F2 f2 c2 w y = rowA F fi c w y := by
  funext k
  unfold rowA
  by_cases q0 : 0 ≤ y
  · have e1 := hF y.toNat (by omega)
    have e2 := hF (y.toNat + 1) (by omega)
    by_cases q : 0 ≤ k ∧ k < F (y.toNat + 1) - F y.toNat
    · rw [itm_in (F := F2) (by rw [e1, e2]; omega), itm_in (F := F) (by omega), e1]
      have h1 := LB_up hL (c.toNat - (y.toNat + 1)) (y.toNat + 1) (by omega)
      rw [show y.toNat + 1 + (c.toNat - (y.toNat + 1)) = c.toNat by omega] at h1
      have h2 := LB_pos hL (x := y) (by omega)
      unfold vl
      rw [hk _ (by omega)]
    · rw [itm_out (F := F2) (by rw [e1, e2]; omega), itm_out (F := F) (by omega)]
  · rw [itm_out (F := F2) (by omega), itm_out (F := F) (by omega)]
theorem SmpA_keep {w : Int} {A : Int → Int} {ln : Int} {fg f3 : Nat → Int32} {ba B : Int} (h : SmpA w A ln fg ba) (hf : ∀ j : Nat, (j : Int) < B → f3 j = fg j) (hb : 0 ≤ ba ∧ ba + w ≤ B) (hw : 0 ≤ w) : SmpA w A ln f3 ba := by
  refine ⟨h.1, h.2.1, h.2.2.1, fun k h0 h1 x h2 h3 => ?_⟩
  have h4 := SmpA_b h h0 hw
  have h5 : 0 ≤ loA A k := by
    unfold loA
    by_cases q : k = 0
    · rw [if_pos q]; omega
    · rw [if_neg q]; exact (SmpA_b h (by omega) hw).1
  rw [hf _ (by omega)]
  exact h.2.2.2 k h0 h1 x h2 h3
theorem SmpA_new {w c c2 : Int} {F2 : Nat → Int} {f2 s2 fw fm f3 : Nat → Int32} {n2 : Nat} (hL : LB c2 F2 s2 n2) (hR : RI w c2 F2 f2) (hc : 0 ≤ c ∧ c2 = c + 1) (hQ : RowQ fw f2 (F2 c.toNat) (F2 (c.toNat + 1)) w) (hW : SmpW w fw fm) (hf : ∀ x, 0 ≤ x → x < w → f3 (3000 * c + x).toNat = fm x.toNat) (hw : 1 ≤ w) : SmpA w (rowA F2 f2 c2 w c) (rowN F2 c) f3 (3000 * c) := by
  have hlen := LB_len hL (x := c) (by omega)
  have hI := RI_at hR (x := c) (by omega)
  have hin : ∀ k, 0 ≤ k → k < rowN F2 c → rowA F2 f2 c2 w c k = vl f2 (F2 c.toNat + k) := fun k h0 h1 => itm_in ⟨by omega, by omega, h0, h1⟩
  have hout : ∀ k, rowN F2 c ≤ k → rowA F2 f2 c2 w c k = w := fun k h0 => itm_out (fun h => by have := h.2.2.2; unfold rowN at h0; omega)
  refine ⟨by unfold rowN; omega, hout, fun k h0 h1 => ?_, fun k h0 h1 x h2 h3 => ?_⟩
  · have h2 := (hI (F2 c.toNat + k) (by omega) (by unfold rowN at h1; omega)).1
    rw [hin k h0 h1]
    refine ⟨h2.1, h2.2, ?_⟩
    by_cases q : k + 1 < rowN F2 c
    · rw [hin (k + 1) (by omega) q]
      exact (hI (F2 c.toNat + (k + 1)) (by omega) (by unfold rowN at q; omega)).2 (F2 c.toNat + k) (by omega) (by omega)
    · rw [hout (k + 1) (by omega)]; exact h2.2
  · have hlo : lowv f2 (F2 c.toNat) k = loA (rowA F2 f2 c2 w c) k := by
      unfold lowv loA
      by_cases q : k = 0
      · rw [if_pos q, if_pos q]
      · rw [if_neg q, if_neg q, hin (k - 1) (by omega) (by omega), show F2 c.toNat + k - 1 = F2 c.toNat + (k - 1) by omega]
    have h0x : 0 ≤ x := by
      have : 0 ≤ loA (rowA F2 f2 c2 w c) k := by
        unfold loA
        by_cases q : k = 0
        · rw [if_pos q]; omega
        · rw [if_neg q, hin (k - 1) (by omega) (by omega)]
          exact (hI (F2 c.toNat + (k - 1)) (by omega) (by unfold rowN at h1; omega)).1.1
      omega
    have hxw : x < w := by
      by_cases q : k < rowN F2 c
      · rw [hin k h0 q] at h3
        have := (hI (F2 c.toNat + k) (by omega) (by unfold rowN at q; omega)).1.2
        omega
      · rw [hout k (by omega)] at h3; exact h3
    have hb := hQ k h0 (by unfold rowN at h1; omega) x (by rw [hlo]; exact h2) h0x (by
      by_cases q : k < rowN F2 c
      · rw [if_pos (by unfold rowN at q; omega), ← hin k h0 q]; exact h3
      · rw [if_neg (by unfold rowN at q; omega)]; exact hxw)
    rw [hf x h0x hxw, hW x h0x hxw, hb]
    by_cases q : k % 2 = 1
    · rw [if_pos (by exact decide_eq_true q), q]
    · rw [if_neg (by simp [q]), show k % 2 = 0 by omega]
theorem SmpR_0 {w : Int} {F : Nat → Int} {fi fg : Nat → Int32} {ln : Int → Int} : SmpR w (rowsA F fi 0 w) ln fg 0 := ⟨fun y h1 h2 => by omega, fun k => show itm F fi 0 w (-1) k = w from itm_out (by omega)⟩
theorem end_all {w c c2 vg g2 wz : Int} {F F2 : Nat → Int} {fi f2 fs s2 fw w2 fm m2 fg f3 : Nat → Int32} {n n2 : Nat} (hR : SmpR w (rowsA F fi c w) (rowN F) fg c) (hW : SmpW w fw fm) (hL : LB c F fs n) (hL2 : LB c2 F2 s2 n2) (hR2 : RI w c2 F2 f2) (hC : EndC w c c2 F F2 fi f2 fw w2) (hE : EndR wz vg g2 fm m2 fg f3) (ez : wz = w) (eg : vg = c) (e2 : g2 = c2) (hw : 1 ≤ w ∧ w ≤ 3000) : SmpR w (rowsA F2 f2 c2 w) (rowN F2) f3 c2 ∧ SmpW w w2 m2 := by
  subst ez; subst eg
  have hc0 := hL.1
  rcases hC with ⟨g1, g2', g3, g4⟩ | ⟨g1, g2', g3, g4, g5⟩
  · rcases hE with ⟨k1, k2, k3⟩ | ⟨k1, k2, k3, k4⟩
    · rw [g1, g2', g3, g4, k2, k3]; exact ⟨hR, hW⟩
    · omega
  · rcases hE with ⟨k1, k2, k3⟩ | ⟨k1, k2, k3, k4⟩
    · omega
    · refine ⟨⟨fun y h1 h2 => ?_, fun k => show itm F2 f2 c2 wz (-1) k = wz from itm_out (by omega)⟩, SmpW_0 g5 k4⟩
      by_cases q : y < vg
      · have h3 := hR.1 y h1 q
        have e1 : rowsA F2 f2 c2 wz y = rowsA F fi vg wz y := rowA_keep hL g2' g3 (by omega) (by omega)
        have e4 : rowN F2 y = rowN F y := by unfold rowN; rw [g2' _ (by omega), g2' _ (by omega)]
        rw [e1, e4]
        exact SmpA_keep h3 k3 (by omega) (by omega)
      · rw [show y = vg by omega]
        exact SmpA_new hL2 hR2 ⟨hc0.1, g1⟩ g4 hW k2 (by omega)
theorem enc_same {n : Nat} {f f2 : Nat → Int32} {tu tv c2 b2 q r kd kz w wz fl vf vg c : Int} {AA : Int → Int → Int} {ln : Int → Int} {S S2 : List Bool} (h1 : EncF n f tu c2 S) (h8 : 8 * q = c2) (h2 : Enc kd w fl AA ln c.toNat S) (h3 : EncR f2 tv b2 S2) (h4 : Enc kz wz vf AA ln vg.toNat S2) (hr : r = (b2 + 7) / 8) (e1 : kz = kd) (e2 : wz = w) (e3 : vf = fl) (e4 : vg = c) : q = r ∧ S2 = S := by
  subst e1; subst e2; subst e3; subst e4
  have e := Enc_u h2 h4
  subst e
  have := h1.1
  have := h3.1
  exact ⟨by omega, rfl⟩
/-- the bytes of both sides -/
def BytE (vi wc : Int) (nw : Nat) (wf : Nat → Int32) (vb : Int) (fr : Nat → Int32) : Prop := (vi = 0 ∧ wc = 0) ∨ (vi = 1 ∧ ∃ S tu, TU tu ∧ EncF nw wf tu wc S ∧ EncR fr tu vb S)
theorem BytE_of {nw : Nat} {wf fr : Nat → Int32} {wc vb tu tv : Int} {S S2 : List Bool} (h1 : EncF nw wf tu wc S) (h2 : EncR fr tv vb S2) (e : S2 = S) (et : tv = tu) (hT : TU tu) : BytE 1 wc nw wf vb fr := by
  subst e; subst et
  exact Or.inr ⟨rfl, _, _, hT, h1, h2⟩
theorem byteV_lt (T : List Bool) {tu : Int} (i : Nat) (ht : tu = 0 ∨ tu = 7) : byteV T tu i < 256 ∧ iI (sgB (byteV T tu i)) &&& iI 255 = iI (byteV T tu i : Nat) := by
  obtain ⟨t, rfl⟩ := tuB_of ht
  have h : ∀ (t b0 b1 b2 b3 b4 b5 b6 b7 : Bool), bvv (tuB t) b0 b1 b2 b3 b4 b5 b6 b7 < 256 ∧ iI (sgB (bvv (tuB t) b0 b1 b2 b3 b4 b5 b6 b7)) &&& iI 255 = iI (bvv (tuB t) b0 b1 b2 b3 b4 b5 b6 b7 : Nat) := by decide +kernel
  exact h _ _ _ _ _ _ _ _ _
theorem byt_same {vi wc vb x z1 z2 : Int} {nw : Nat} {wf fr : Nat → Int32} {q r : Int32} (h : BytE vi wc nw wf vb fr) (hn : wc ≤ 8 * (nw : Int)) (h1 : (0 ≤ x ∧ x < (wc + 7) / 8 ∧ q = wf x.toNat &&& iI 255) ∨ ((x < 0 ∨ (wc + 7) / 8 ≤ x) ∧ q = iI (-1))) (h2 : (vi ≠ 0 ∧ 0 ≤ x ∧ x < (vb + 7) / 8 ∧ r = fr x.toNat) ∨ ((vi = 0 ∨ x < 0 ∨ (vb + 7) / 8 ≤ x) ∧ r = iI (-1))) (e1 : q = iI z1) (hz1 : -2147483648 ≤ z1 ∧ z1 < 2147483648) (e2 : r = iI z2) (hz2 : -2147483648 ≤ z2 ∧ z2 < 2147483648) : z1 = z2 := by
  have hqr : q = r := by
    rcases h with ⟨g1, g2⟩ | ⟨g1, S, tu, g2, g3, g4⟩
    · rcases h1 with ⟨k1, k2, k3⟩ | ⟨k1, k3⟩
      · omega
      · rcases h2 with ⟨m1, m2, m3, m4⟩ | ⟨m1, m4⟩
        · omega
        · rw [k3, m4]
    · have hl := g3.1
      have hb := g4.1
      rcases h1 with ⟨k1, k2, k3⟩ | ⟨k1, k3⟩
      · rcases h2 with ⟨m1, m2, m3, m4⟩ | ⟨m1, m4⟩
        · rw [k3, m4, g3.2 _ (by omega), g4.2 _ (by omega)]
          exact (byteV_lt S x.toNat g2).2
        · omega
      · rcases h2 with ⟨m1, m2, m3, m4⟩ | ⟨m1, m4⟩
        · omega
        · rw [k3, m4]
  rw [e1, e2, iI_inj hz1 hz2] at hqr
  exact hqr
theorem TU_l {tu lo : Int} (h : tu = 7 - 7 * lo) (hl : 0 ≤ lo ∧ lo ≤ 1) : TU tu := by unfold TU; omega
