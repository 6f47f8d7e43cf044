set_option maxRecDepth 20000 in
theorem k978 : (Jvm.Cond.classLink "FaxRows" (135 : Nat) "java/lang/ArrayIndexOutOfBoundsException") ∈ wT := wk (lwt_4 (List.mem_of_getElem? (i := 213) (by decide +kernel))) rfl
set_option maxRecDepth 20000 in
theorem k969 : (Jvm.Cond.classLink "FaxRowsLaw" (13 : Nat) "java/lang/ArrayIndexOutOfBoundsException") ∈ wT := wk (lwt_4 (List.mem_of_getElem? (i := 204) (by decide +kernel))) rfl
set_option maxRecDepth 20000 in
theorem k62 : (Jvm.Cond.initialized "java/lang/ArrayIndexOutOfBoundsException") ∈ wT := wk (lwt_1 (List.mem_of_getElem? (i := 17) (by decide +kernel))) rfl
set_option maxRecDepth 20000 in
theorem n374 : (Jvm.Cond.castable "java/lang/ArrayIndexOutOfBoundsException" "java/lang/ArrayIndexOutOfBoundsException") ∈ wN := wnk (lwt_2 (List.mem_of_getElem? (i := 89) (by decide +kernel))) rfl
/-! THE READER: small methods; the public methods that read -/
set_option maxRecDepth 20000 in
theorem thr_at : ∀ w ∈ vx_atS "FaxRows" 139 "java/lang/ArrayIndexOutOfBoundsException" ["java/lang/IndexOutOfBoundsException", "java/lang/RuntimeException", "java/lang/Exception"], w ∈ wT ∨ w ∈ wN := by
  have h1 : ∀ w ∈ vx_atS "FaxRows" 139 "java/lang/ArrayIndexOutOfBoundsException" ["java/lang/IndexOutOfBoundsException", "java/lang/RuntimeException", "java/lang/Exception"], w ∈ lw_tbl := by decide +kernel
  have h2 : ∀ w ∈ vx_atS "FaxRows" 139 "java/lang/ArrayIndexOutOfBoundsException" ["java/lang/IndexOutOfBoundsException", "java/lang/RuntimeException", "java/lang/Exception"], goodWord w = true ∨ isNest w = true := by decide +kernel
  exact fun w hw => (h2 w hw).elim (fun h => Or.inl (List.mem_filter.mpr ⟨h1 w hw, h⟩)) (fun h => Or.inr (List.mem_filter.mpr ⟨h1 w hw, h⟩))
theorem thr_ot : ∀ w ∈ Cond.classLink "FaxRows" 135 "java/lang/ArrayIndexOutOfBoundsException" :: Cond.initialized "java/lang/ArrayIndexOutOfBoundsException" :: vx_atS "FaxRows" 139 "java/lang/ArrayIndexOutOfBoundsException" ["java/lang/IndexOutOfBoundsException", "java/lang/RuntimeException", "java/lang/Exception"], vx_ot w = true := by decide +kernel
theorem dX3_forget_0 : decode cX3_forget 0 = .ok (.aload_n 0, 1) := by decide +kernel
theorem dX3_forget_1 : decode cX3_forget 1 = .ok (.getfield 12, 3) := by decide +kernel
theorem dX3_forget_4 : decode cX3_forget 4 = .ok (.invokevirtual 80, 3) := by decide +kernel
theorem dX3_forget_7 : decode cX3_forget 7 = .ok (.aload_n 0, 1) := by decide +kernel
theorem dX3_forget_8 : decode cX3_forget 8 = .ok (.getfield 18, 3) := by decide +kernel
theorem dX3_forget_11 : decode cX3_forget 11 = .ok (.invokevirtual 80, 3) := by decide +kernel
theorem dX3_forget_14 : decode cX3_forget 14 = .ok (.return_, 1) := by decide +kernel
abbrev po_c_X3_forget (g : GG) (h0 : Nat) (w : Int) (r : Nat) (md : Nat) (dm : Nat) (t1 : Nat) (t2 : Nat) (t3 : Nat) (td : Nat) (src : Nat) (rs : Nat) (it : Nat) (m : Nat) (c : Int) (F : Nat → Int) (fs : Nat → Int32) (fi : Nat → Int32) (ms : Nat) (mi : Nat) (mm : Nat) (cm : Int) (G : Nat → Int) (gs : Nat → Int32) (gi : Nat → Int32) : Option Value → va_W → Prop := fun v8 w8 => ∃ s2 : Nat → Int32, ∃ x2 : Nat → Int32, v8 = none ∧ w8 = [(h0, ob 3 [.int (iI w), .ref r, .ref md, .ref dm, .ref t1, .ref t2, .ref t3, .ref td, .ref src]), (r, ob 2 [.ref rs, .ref it, .int (iI 0)]), (rs, aI g 27 s2), (md, ob 2 [.ref ms, .ref mi, .int (iI 0)]), (ms, aI g 27 x2)] ∧ (LB 0 (fU F 1 0) s2 m) ∧ (LB 0 (fU G 1 0) x2 mm)
set_option maxHeartbeats 4000000 in
set_option maxRecDepth 100000 in
theorem c_X3_forget (l : Launch) (g : GG) (h0 : Nat) (w : Int) (r : Nat) (md : Nat) (dm : Nat) (t1 : Nat) (t2 : Nat) (t3 : Nat) (td : Nat) (src : Nat) (rs : Nat) (it : Nat) (m : Nat) (c : Int) (F : Nat → Int) (fs : Nat → Int32) (fi : Nat → Int32) (ms : Nat) (mi : Nat) (mm : Nat) (cm : Int) (G : Nat → Int) (gs : Nat → Int32) (gi : Nat → Int32) (hp0 : LB c F fs m) (hp1 : LB cm G gs mm) : Ct l g yX3_forget (wM yX3_forget cX3_forget 1 none) (rmD 1 0 0) [.ref h0] [(h0, ob 3 [.int (iI w), .ref r, .ref md, .ref dm, .ref t1, .ref t2, .ref t3, .ref td, .ref src]), (r, ob 2 [.ref rs, .ref it, .int (iI c)]), (rs, aI g 27 fs), (md, ob 2 [.ref ms, .ref mi, .int (iI cm)]), (ms, aI g 27 gs)] (po_c_X3_forget g h0 w r md dm t1 t2 t3 td src rs it m c F fs fi ms mi mm cm G gs gi) := by
  refine Ct_of (by decide +kernel) (Nat.le_of_ble_eq_true rfl) ?_
  intro p9 e9 s9 m9 ag9 bl9 mt9 c9 A9 fx hr hnm
  refine v_aload_n fx 0 dX3_forget_0 rfl rfl ?_
  refine v_get fx 0 1 inX3 k249 dX3_forget_1 rfl rfl (by decide) rfl rfl rfl ?_
  refine v_callV (As := []) (rest := []) fx [1, 2] [0, 3, 4] [(r, ob 2 [.ref rs, .ref it, .int (iI c)]), (rs, aI g 27 fs)] [(h0, ob 3 [.int (iI w), .ref r, .ref md, .ref dm, .ref t1, .ref t2, .ref t3, .ref td, .ref src]), (md, ob 2 [.ref ms, .ref mi, .int (iI cm)]), (ms, aI g 27 gs)] 0 0 (c_X2_removeAll l g r rs it m c F fs fi (by exact hp0)) dX3_forget_4 k802 k803 k804 k49 k805 ykX2_removeAll rfl rfl rfl rfl rfl rfl rfl rfl (nl rfl) ⟨nl rfl, nl rfl⟩ ⟨(nl rfl), (nl rfl)⟩ rfl (fun v9 w9 hu => ?_)
  obtain ⟨s3, rfl, rfl, u_1⟩ := hu
  refine v_is (wn := [(h0, ob 3 [.int (iI w), .ref r, .ref md, .ref dm, .ref t1, .ref t2, .ref t3, .ref td, .ref src]), (md, ob 2 [.ref ms, .ref mi, .int (iI cm)]), (ms, aI g 27 gs), (r, ob 2 [.ref rs, .ref it, .int (iI 0)]), (rs, aI g 27 s3)]) (cn := 0) (sn := 0) (sn2 := []) rfl rfl rfl rfl ?_
  refine v_aload_n fx 0 dX3_forget_7 rfl rfl ?_
  refine v_get fx 0 2 inX3 k250 dX3_forget_8 rfl rfl (by decide) rfl rfl rfl ?_
  refine v_callV (As := []) (rest := []) fx [1, 2] [0, 3, 4] [(md, ob 2 [.ref ms, .ref mi, .int (iI cm)]), (ms, aI g 27 gs)] [(h0, ob 3 [.int (iI w), .ref r, .ref md, .ref dm, .ref t1, .ref t2, .ref t3, .ref td, .ref src]), (r, ob 2 [.ref rs, .ref it, .int (iI 0)]), (rs, aI g 27 s3)] 0 0 (c_X2_removeAll l g md ms mi mm cm G gs gi (by exact hp1)) dX3_forget_11 k802 k803 k804 k49 k805 ykX2_removeAll rfl rfl rfl rfl rfl rfl rfl rfl (nl rfl) ⟨nl rfl, nl rfl⟩ ⟨(nl rfl), (nl rfl)⟩ rfl (fun v9 w9 hu => ?_)
  obtain ⟨x3, rfl, rfl, u_2⟩ := hu
  refine v_is (wn := [(h0, ob 3 [.int (iI w), .ref r, .ref md, .ref dm, .ref t1, .ref t2, .ref t3, .ref td, .ref src]), (r, ob 2 [.ref rs, .ref it, .int (iI 0)]), (rs, aI g 27 s3), (md, ob 2 [.ref ms, .ref mi, .int (iI 0)]), (ms, aI g 27 x3)]) (cn := 0) (sn := 0) (sn2 := []) rfl rfl rfl rfl ?_
  exact v_vret fx [(h0, ob 3 [.int (iI w), .ref r, .ref md, .ref dm, .ref t1, .ref t2, .ref t3, .ref td, .ref src]), (r, ob 2 [.ref rs, .ref it, .int (iI 0)]), (rs, aI g 27 s3), (md, ob 2 [.ref ms, .ref mi, .int (iI 0)]), (ms, aI g 27 x3)] [0, 1, 2, 3, 4] hr dX3_forget_14 rfl rfl (nl rfl) (nl rfl) ⟨s3, x3, rfl, rfl, (by assumption), (by assumption)⟩
theorem dX3_begin_0 : decode cX3_begin 0 = .ok (.aload_n 0, 1) := by decide +kernel
theorem dX3_begin_1 : decode cX3_begin 1 = .ok (.invokevirtual 72, 3) := by decide +kernel
theorem dX3_begin_4 : decode cX3_begin 4 = .ok (.aload_n 0, 1) := by decide +kernel
theorem dX3_begin_5 : decode cX3_begin 5 = .ok (.aload_n 1, 1) := by decide +kernel
theorem dX3_begin_6 : decode cX3_begin 6 = .ok (.putfield 59, 3) := by decide +kernel
theorem dX3_begin_9 : decode cX3_begin 9 = .ok (.aload_n 0, 1) := by decide +kernel
theorem dX3_begin_10 : decode cX3_begin 10 = .ok (.getfield 59, 3) := by decide +kernel
theorem dX3_begin_13 : decode cX3_begin 13 = .ok (.invokevirtual 75, 3) := by decide +kernel
theorem dX3_begin_16 : decode cX3_begin 16 = .ok (.return_, 1) := by decide +kernel
abbrev po_c_X3_begin (g : GG) (h0 : Nat) (w : Int) (r : Nat) (md : Nat) (dm : Nat) (t1 : Nat) (t2 : Nat) (t3 : Nat) (td : Nat) (src : Nat) (so : Nat) (ba : Nat) (rs : Nat) (it : Nat) (m : Nat) (c : Int) (F : Nat → Int) (fs : Nat → Int32) (fi : Nat → Int32) (ms : Nat) (mi : Nat) (mm : Nat) (cm : Int) (G : Nat → Int) (gs : Nat → Int32) (gi : Nat → Int32) (cb : Int) (pl : Int) (tu : Int) : Option Value → va_W → Prop := fun v8 w8 => ∃ s2 : Nat → Int32, ∃ x2 : Nat → Int32, v8 = none ∧ w8 = [(h0, ob 3 [.int (iI w), .ref r, .ref md, .ref dm, .ref t1, .ref t2, .ref t3, .ref td, .ref so]), (r, ob 2 [.ref rs, .ref it, .int (iI 0)]), (rs, aI g 27 s2), (md, ob 2 [.ref ms, .ref mi, .int (iI 0)]), (ms, aI g 27 x2), (so, ob 0 [.ref ba, .int (iI cb), .int (iI 0), .int (iI tu)])] ∧ (LB 0 (fU F 1 0) s2 m) ∧ (LB 0 (fU G 1 0) x2 mm)
set_option maxHeartbeats 4000000 in
set_option maxRecDepth 100000 in
theorem c_X3_begin (l : Launch) (g : GG) (h0 : Nat) (w : Int) (r : Nat) (md : Nat) (dm : Nat) (t1 : Nat) (t2 : Nat) (t3 : Nat) (td : Nat) (src : Nat) (so : Nat) (ba : Nat) (rs : Nat) (it : Nat) (m : Nat) (c : Int) (F : Nat → Int) (fs : Nat → Int32) (fi : Nat → Int32) (ms : Nat) (mi : Nat) (mm : Nat) (cm : Int) (G : Nat → Int) (gs : Nat → Int32) (gi : Nat → Int32) (cb : Int) (pl : Int) (tu : Int) (hp0 : LB c F fs m) (hp1 : LB cm G gs mm) : Ct l g yX3_begin (wM yX3_begin cX3_begin 2 none) (rmD 2 0 0) [.ref h0, .ref so] [(h0, ob 3 [.int (iI w), .ref r, .ref md, .ref dm, .ref t1, .ref t2, .ref t3, .ref td, .ref src]), (r, ob 2 [.ref rs, .ref it, .int (iI c)]), (rs, aI g 27 fs), (md, ob 2 [.ref ms, .ref mi, .int (iI cm)]), (ms, aI g 27 gs), (so, ob 0 [.ref ba, .int (iI cb), .int (iI pl), .int (iI tu)])] (po_c_X3_begin g h0 w r md dm t1 t2 t3 td src so ba rs it m c F fs fi ms mi mm cm G gs gi cb pl tu) := by
  refine Ct_of (by decide +kernel) (Nat.le_of_ble_eq_true rfl) ?_
  intro p9 e9 s9 m9 ag9 bl9 mt9 c9 A9 fx hr hnm
  refine v_aload_n fx 0 dX3_begin_0 rfl rfl ?_
  refine v_callV (As := []) (rest := []) fx [0, 1, 2, 3, 4] [5] [(h0, ob 3 [.int (iI w), .ref r, .ref md, .ref dm, .ref t1, .ref t2, .ref t3, .ref td, .ref src]), (r, ob 2 [.ref rs, .ref it, .int (iI c)]), (rs, aI g 27 fs), (md, ob 2 [.ref ms, .ref mi, .int (iI cm)]), (ms, aI g 27 gs)] [(so, ob 0 [.ref ba, .int (iI cb), .int (iI pl), .int (iI tu)])] 0 0 (c_X3_forget l g h0 w r md dm t1 t2 t3 td src rs it m c F fs fi ms mi mm cm G gs gi (by exact hp0) (by exact hp1)) dX3_begin_1 k798 k799 k800 k53 k801 ykX3_forget rfl rfl rfl rfl rfl rfl rfl rfl (nl rfl) ⟨nl rfl, nl rfl⟩ ⟨(nl rfl), (nl rfl)⟩ rfl (fun v9 w9 hu => ?_)
  obtain ⟨s2_1, x2_2, rfl, rfl, u_3, u_4⟩ := hu
  refine v_is (wn := [(so, ob 0 [.ref ba, .int (iI cb), .int (iI pl), .int (iI tu)]), (h0, ob 3 [.int (iI w), .ref r, .ref md, .ref dm, .ref t1, .ref t2, .ref t3, .ref td, .ref src]), (r, ob 2 [.ref rs, .ref it, .int (iI 0)]), (rs, aI g 27 s2_1), (md, ob 2 [.ref ms, .ref mi, .int (iI 0)]), (ms, aI g 27 x2_2)]) (cn := 0) (sn := 0) (sn2 := []) rfl rfl rfl rfl ?_
  refine v_aload_n fx 0 dX3_begin_4 rfl rfl ?_
  refine v_aload_n fx 1 dX3_begin_5 rfl rfl ?_
  refine v_put fx 1 8 [(so, ob 0 [.ref ba, .int (iI cb), .int (iI pl), .int (iI tu)]), (h0, ob 3 [.int (iI w), .ref r, .ref md, .ref dm, .ref t1, .ref t2, .ref t3, .ref td, .ref so]), (r, ob 2 [.ref rs, .ref it, .int (iI 0)]), (rs, aI g 27 s2_1), (md, ob 2 [.ref ms, .ref mi, .int (iI 0)]), (ms, aI g 27 x2_2)] inX3 tyX3_ok nmX3 k256 dX3_begin_6 rfl rfl (by decide) rfl rfl rfl rfl (nl rfl) rfl rfl ?_
  refine v_aload_n fx 0 dX3_begin_9 rfl rfl ?_
  refine v_get fx 1 8 inX3 k256 dX3_begin_10 rfl rfl (by decide) rfl rfl rfl ?_
  refine v_callV (As := []) (rest := []) fx [0] [1, 2, 3, 4, 5] [(so, ob 0 [.ref ba, .int (iI cb), .int (iI pl), .int (iI tu)])] [(h0, ob 3 [.int (iI w), .ref r, .ref md, .ref dm, .ref t1, .ref t2, .ref t3, .ref td, .ref so]), (r, ob 2 [.ref rs, .ref it, .int (iI 0)]), (rs, aI g 27 s2_1), (md, ob 2 [.ref ms, .ref mi, .int (iI 0)]), (ms, aI g 27 x2_2)] 0 0 (c_X0_beginReading l g so ba cb pl tu ) dX3_begin_13 k806 k807 k808 k50 k809 ykX0_beginReading rfl rfl rfl rfl rfl rfl rfl rfl (nl rfl) ⟨nl rfl, nl rfl⟩ ⟨(nl rfl), (nl rfl)⟩ rfl (fun v9 w9 hu => ?_)
  obtain ⟨rfl, rfl⟩ := hu
  refine v_is (wn := [(h0, ob 3 [.int (iI w), .ref r, .ref md, .ref dm, .ref t1, .ref t2, .ref t3, .ref td, .ref so]), (r, ob 2 [.ref rs, .ref it, .int (iI 0)]), (rs, aI g 27 s2_1), (md, ob 2 [.ref ms, .ref mi, .int (iI 0)]), (ms, aI g 27 x2_2), (so, ob 0 [.ref ba, .int (iI cb), .int (iI 0), .int (iI tu)])]) (cn := 0) (sn := 0) (sn2 := []) rfl rfl rfl rfl ?_
  exact v_vret fx [(h0, ob 3 [.int (iI w), .ref r, .ref md, .ref dm, .ref t1, .ref t2, .ref t3, .ref td, .ref so]), (r, ob 2 [.ref rs, .ref it, .int (iI 0)]), (rs, aI g 27 s2_1), (md, ob 2 [.ref ms, .ref mi, .int (iI 0)]), (ms, aI g 27 x2_2), (so, ob 0 [.ref ba, .int (iI cb), .int (iI 0), .int (iI tu)])] [0, 1, 2, 3, 4, 5] hr dX3_begin_16 rfl rfl (nl rfl) (nl rfl) ⟨s2_1, x2_2, rfl, rfl, (by assumption), (by assumption)⟩
theorem dX3_hasRow_0 : decode cX3_hasRow 0 = .ok (.aload_n 0, 1) := by decide +kernel
theorem dX3_hasRow_1 : decode cX3_hasRow 1 = .ok (.getfield 12, 3) := by decide +kernel
theorem dX3_hasRow_4 : decode cX3_hasRow 4 = .ok (.iload_n 1, 1) := by decide +kernel
theorem dX3_hasRow_5 : decode cX3_hasRow 5 = .ok (.invokevirtual 83, 3) := by decide +kernel
theorem dX3_hasRow_8 : decode cX3_hasRow 8 = .ok (.ireturn, 1) := by decide +kernel
abbrev po_c_X3_hasRow (g : GG) (h0 : Nat) (w : Int) (r : Nat) (md : Nat) (dm : Nat) (t1 : Nat) (t2 : Nat) (t3 : Nat) (td : Nat) (src : Nat) (rs : Nat) (it : Nat) (m : Nat) (c : Int) (F : Nat → Int) (fs : Nat → Int32) (fi : Nat → Int32) (x : Int) : Option Value → va_W → Prop := fun v8 w8 => ∃ q : Int, v8 = some (.int (iI q)) ∧ w8 = [(h0, ob 3 [.int (iI w), .ref r, .ref md, .ref dm, .ref t1, .ref t2, .ref t3, .ref td, .ref src]), (r, ob 2 [.ref rs, .ref it, .int (iI c)])] ∧ ((q = 1 ∧ 0 ≤ x ∧ x < c) ∨ (q = 0 ∧ (x < 0 ∨ c ≤ x)))
set_option maxHeartbeats 4000000 in
set_option maxRecDepth 100000 in
theorem c_X3_hasRow (l : Launch) (g : GG) (h0 : Nat) (w : Int) (r : Nat) (md : Nat) (dm : Nat) (t1 : Nat) (t2 : Nat) (t3 : Nat) (td : Nat) (src : Nat) (rs : Nat) (it : Nat) (m : Nat) (c : Int) (F : Nat → Int) (fs : Nat → Int32) (fi : Nat → Int32) (x : Int) (hp0 : -2147483648 ≤ x ∧ x < 2147483648) (hp1 : -2147483648 ≤ c ∧ c < 2147483648) : Ct l g yX3_hasRow (wM yX3_hasRow cX3_hasRow 2 (some .boolean)) (rmD 1 0 0) [.ref h0, .int (iI x)] [(h0, ob 3 [.int (iI w), .ref r, .ref md, .ref dm, .ref t1, .ref t2, .ref t3, .ref td, .ref src]), (r, ob 2 [.ref rs, .ref it, .int (iI c)])] (po_c_X3_hasRow g h0 w r md dm t1 t2 t3 td src rs it m c F fs fi x) := by
  refine Ct_of (by decide +kernel) (Nat.le_of_ble_eq_true rfl) ?_
  intro p9 e9 s9 m9 ag9 bl9 mt9 c9 A9 fx hr hnm
  refine v_aload_n fx 0 dX3_hasRow_0 rfl rfl ?_
  refine v_get fx 0 1 inX3 k249 dX3_hasRow_1 rfl rfl (by decide) rfl rfl rfl ?_
  refine v_iload_n fx 1 dX3_hasRow_4 rfl rfl ?_
  refine v_callV (As := [.int (iI x)]) (rest := []) fx [1] [0] [(r, ob 2 [.ref rs, .ref it, .int (iI c)])] [(h0, ob 3 [.int (iI w), .ref r, .ref md, .ref dm, .ref t1, .ref t2, .ref t3, .ref td, .ref src])] 1 0 (c_X2_has l g r rs it c x (by first | omega | decide | assumption) (by first | omega | decide | assumption)) dX3_hasRow_5 k921 k922 k923 k49 k924 ykX2_has rfl rfl rfl rfl rfl rfl rfl rfl (nl rfl) ⟨nl rfl, nl rfl⟩ ⟨(nl rfl), (nl rfl)⟩ rfl (fun v9 w9 hu => ?_)
  obtain ⟨r_1, rfl, rfl, u_2⟩ := hu
  refine v_is (wn := [(h0, ob 3 [.int (iI w), .ref r, .ref md, .ref dm, .ref t1, .ref t2, .ref t3, .ref td, .ref src]), (r, ob 2 [.ref rs, .ref it, .int (iI c)])]) (cn := 0) (sn := 0) (sn2 := [.int (iI r_1)]) rfl rfl rfl rfl ?_
  exact v_zret fx [(h0, ob 3 [.int (iI w), .ref r, .ref md, .ref dm, .ref t1, .ref t2, .ref t3, .ref td, .ref src]), (r, ob 2 [.ref rs, .ref it, .int (iI c)])] [0, 1] hr dX3_hasRow_8 (by first | rfl | exact nar_z _ (by omega)) rfl rfl (nl rfl) (nl rfl) ⟨r_1, rfl, rfl, (by first | omega | rfl | assumption)⟩
theorem dX3_isBlack_0 : decode cX3_isBlack 0 = .ok (.aload_n 0, 1) := by decide +kernel
theorem dX3_isBlack_1 : decode cX3_isBlack 1 = .ok (.getfield 12, 3) := by decide +kernel
theorem dX3_isBlack_4 : decode cX3_isBlack 4 = .ok (.iload_n 2, 1) := by decide +kernel
theorem dX3_isBlack_5 : decode cX3_isBlack 5 = .ok (.invokevirtual 87, 3) := by decide +kernel
theorem dX3_isBlack_8 : decode cX3_isBlack 8 = .ok (.istore_n 3, 1) := by decide +kernel
theorem dX3_isBlack_9 : decode cX3_isBlack 9 = .ok (.iconst 0, 1) := by decide +kernel
theorem dX3_isBlack_10 : decode cX3_isBlack 10 = .ok (.istore 4, 2) := by decide +kernel
theorem dX3_isBlack_12 : decode cX3_isBlack 12 = .ok (.iload 4, 2) := by decide +kernel
theorem dX3_isBlack_14 : decode cX3_isBlack 14 = .ok (.iload_n 3, 1) := by decide +kernel
theorem dX3_isBlack_15 : decode cX3_isBlack 15 = .ok (.if_icmp .ge 27, 3) := by decide +kernel
theorem dX3_isBlack_18 : decode cX3_isBlack 18 = .ok (.aload_n 0, 1) := by decide +kernel
theorem dX3_isBlack_19 : decode cX3_isBlack 19 = .ok (.getfield 12, 3) := by decide +kernel
theorem dX3_isBlack_22 : decode cX3_isBlack 22 = .ok (.iload_n 2, 1) := by decide +kernel
theorem dX3_isBlack_23 : decode cX3_isBlack 23 = .ok (.iload 4, 2) := by decide +kernel
theorem dX3_isBlack_25 : decode cX3_isBlack 25 = .ok (.aload_n 0, 1) := by decide +kernel
theorem dX3_isBlack_26 : decode cX3_isBlack 26 = .ok (.getfield 38, 3) := by decide +kernel
theorem dX3_isBlack_29 : decode cX3_isBlack 29 = .ok (.invokevirtual 91, 3) := by decide +kernel
theorem dX3_isBlack_32 : decode cX3_isBlack 32 = .ok (.iload_n 1, 1) := by decide +kernel
theorem dX3_isBlack_33 : decode cX3_isBlack 33 = .ok (.if_icmp .gt 9, 3) := by decide +kernel
theorem dX3_isBlack_36 : decode cX3_isBlack 36 = .ok (.iinc 4 1, 3) := by decide +kernel
theorem dX3_isBlack_39 : decode cX3_isBlack 39 = .ok (.goto (-27), 3) := by decide +kernel
theorem dX3_isBlack_42 : decode cX3_isBlack 42 = .ok (.iload 4, 2) := by decide +kernel
theorem dX3_isBlack_44 : decode cX3_isBlack 44 = .ok (.iconst 2, 1) := by decide +kernel
theorem dX3_isBlack_45 : decode cX3_isBlack 45 = .ok (.irem, 1) := by decide +kernel
theorem dX3_isBlack_46 : decode cX3_isBlack 46 = .ok (.iconst 1, 1) := by decide +kernel
theorem dX3_isBlack_47 : decode cX3_isBlack 47 = .ok (.if_icmp .ne 7, 3) := by decide +kernel
theorem dX3_isBlack_50 : decode cX3_isBlack 50 = .ok (.iconst 1, 1) := by decide +kernel
theorem dX3_isBlack_51 : decode cX3_isBlack 51 = .ok (.goto 4, 3) := by decide +kernel
theorem dX3_isBlack_54 : decode cX3_isBlack 54 = .ok (.iconst 0, 1) := by decide +kernel
theorem dX3_isBlack_55 : decode cX3_isBlack 55 = .ok (.ireturn, 1) := by decide +kernel
abbrev po_c_X3_isBlack (g : GG) (h0 : Nat) (w : Int) (r : Nat) (md : Nat) (dm : Nat) (t1 : Nat) (t2 : Nat) (t3 : Nat) (td : Nat) (src : Nat) (rs : Nat) (it : Nat) (m : Nat) (c : Int) (F : Nat → Int) (fs : Nat → Int32) (fi : Nat → Int32) (x : Int) (y : Int) : Option Value → va_W → Prop := fun v8 w8 => ∃ q : Int, v8 = some (.int (iI q)) ∧ w8 = [(h0, ob 3 [.int (iI w), .ref r, .ref md, .ref dm, .ref t1, .ref t2, .ref t3, .ref td, .ref src]), (r, ob 2 [.ref rs, .ref it, .int (iI c)]), (rs, aI g 27 fs), (it, aI g m fi)] ∧ (0 ≤ q ∧ q ≤ 1)
set_option maxHeartbeats 4000000 in
set_option maxRecDepth 100000 in
theorem c_X3_isBlack (l : Launch) (g : GG) (h0 : Nat) (w : Int) (r : Nat) (md : Nat) (dm : Nat) (t1 : Nat) (t2 : Nat) (t3 : Nat) (td : Nat) (src : Nat) (rs : Nat) (it : Nat) (m : Nat) (c : Int) (F : Nat → Int) (fs : Nat → Int32) (fi : Nat → Int32) (x : Int) (y : Int) (hp0 : LB c F fs m) (hp1 : -2147483648 ≤ x ∧ x < 2147483648) (hp2 : -2147483648 ≤ y ∧ y < 2147483648) (hp3 : 1 ≤ w ∧ w ≤ 3000) : Ct l g yX3_isBlack (wM yX3_isBlack cX3_isBlack 5 (some .boolean)) (rmD 1 0 0) [.ref h0, .int (iI x), .int (iI y)] [(h0, ob 3 [.int (iI w), .ref r, .ref md, .ref dm, .ref t1, .ref t2, .ref t3, .ref td, .ref src]), (r, ob 2 [.ref rs, .ref it, .int (iI c)]), (rs, aI g 27 fs), (it, aI g m fi)] (po_c_X3_isBlack g h0 w r md dm t1 t2 t3 td src rs it m c F fs fi x y) := by
  refine Ct_of (by decide +kernel) (Nat.le_of_ble_eq_true rfl) ?_
  intro p9 e9 s9 m9 ag9 bl9 mt9 c9 A9 fx hr hnm
  have hn := LB_n hp0
  refine v_aload_n fx 0 dX3_isBlack_0 rfl rfl ?_
  refine v_get fx 0 1 inX3 k249 dX3_isBlack_1 rfl rfl (by decide) rfl rfl rfl ?_
  refine v_iload_n fx 2 dX3_isBlack_4 rfl rfl ?_
  refine v_callV (As := [.int (iI y)]) (rest := []) fx [1, 2] [0, 3] [(r, ob 2 [.ref rs, .ref it, .int (iI c)]), (rs, aI g 27 fs)] [(h0, ob 3 [.int (iI w), .ref r, .ref md, .ref dm, .ref t1, .ref t2, .ref t3, .ref td, .ref src]), (it, aI g m fi)] 1 0 (c_X2_length l g r rs it m c F fs fi y (by exact hp0) (by first | omega | decide | assumption)) dX3_isBlack_5 k875 k719 k720 k49 k721 ykX2_length rfl rfl rfl rfl rfl rfl rfl rfl (nl rfl) ⟨nl rfl, nl rfl⟩ ⟨(nl rfl), (nl rfl)⟩ rfl (fun v9 w9 hu => ?_)
  obtain ⟨ln, rfl, rfl, u_1, u_2⟩ := hu
  refine v_is (wn := [(h0, ob 3 [.int (iI w), .ref r, .ref md, .ref dm, .ref t1, .ref t2, .ref t3, .ref td, .ref src]), (it, aI g m fi), (r, ob 2 [.ref rs, .ref it, .int (iI c)]), (rs, aI g 27 fs)]) (cn := 0) (sn := 0) (sn2 := [.int (iI ln)]) rfl rfl rfl rfl ?_
  have hln := u_2
  clear u_1
  refine v_istore_n fx [(3, .int (iI ln)), (0, .ref h0), (1, .int (iI x)), (2, .int (iI y))] dX3_isBlack_8 (by decide) rfl rfl ?_
  refine v_iconst fx dX3_isBlack_9 rfl ?_
  refine v_istore fx [(4, .int (iI 0)), (3, .int (iI ln)), (0, .ref h0), (1, .int (iI x)), (2, .int (iI y))] dX3_isBlack_10 (by decide) rfl rfl ?_
  have L12 : ∀ (N : Nat) (k : Int), (0 ≤ k ∧ k ≤ ln) → ((ln - k).toNat) < N → V p9 l e9 (rmD 1 0 0) s9 m9 ag9 bl9 mt9 c9 5 g A9 (MQ bl9 (cQ g (po_c_X3_isBlack g h0 w r md dm t1 t2 t3 td src rs it m c F fs fi x y) A9) ag9 s9 0 0 A9) [(h0, ob 3 [.int (iI w), .ref r, .ref md, .ref dm, .ref t1, .ref t2, .ref t3, .ref td, .ref src]), (r, ob 2 [.ref rs, .ref it, .int (iI c)]), (rs, aI g 27 fs), (it, aI g m fi)] 0 0 [(0, .ref h0), (1, .int (iI x)), (2, .int (iI y)), (3, .int (iI ln)), (4, .int (iI k))] 12 [] := by
    intro N
    induction N with
    | zero => intro k hi12_0 hN; exact absurd hN (Nat.not_lt_zero _)
    | succ N ihL12 =>
      intro k hi12_0 hN12
      refine v_iload fx 4 dX3_isBlack_12 rfl rfl ?_
      refine v_iload_n fx 3 dX3_isBlack_14 rfl rfl ?_
      refine v_icmp_ge fx 42 dX3_isBlack_15 (by decide) rfl (by omega) (by omega) (fun h_3 => ?_) (fun h_3 => ?_)
      ·
        refine v_iload fx 4 dX3_isBlack_42 rfl rfl ?_
        refine v_iconst fx dX3_isBlack_44 rfl ?_
        refine v_irem fx (iI (k % 2)) dX3_isBlack_45 (by decide) (iI_rem (by omega) 2 (by decide) (by decide)) rfl ?_
        refine v_iconst fx dX3_isBlack_46 rfl ?_
        refine v_icmp_ne fx 54 dX3_isBlack_47 (by decide) rfl (by omega) (by omega) (fun h_4 => ?_) (fun h_4 => ?_)
        ·
          refine v_iconst fx dX3_isBlack_54 rfl ?_
          exact v_zret fx [(h0, ob 3 [.int (iI w), .ref r, .ref md, .ref dm, .ref t1, .ref t2, .ref t3, .ref td, .ref src]), (r, ob 2 [.ref rs, .ref it, .int (iI c)]), (rs, aI g 27 fs), (it, aI g m fi)] [0, 1, 2, 3] hr dX3_isBlack_55 (by first | rfl | exact nar_z _ (by omega)) rfl rfl (nl rfl) (nl rfl) ⟨0, rfl, rfl, (by first | omega | rfl | assumption)⟩
        ·
          refine v_iconst fx dX3_isBlack_50 rfl ?_
          refine v_goto fx 55 dX3_isBlack_51 (by decide) ?_
          exact v_zret fx [(h0, ob 3 [.int (iI w), .ref r, .ref md, .ref dm, .ref t1, .ref t2, .ref t3, .ref td, .ref src]), (r, ob 2 [.ref rs, .ref it, .int (iI c)]), (rs, aI g 27 fs), (it, aI g m fi)] [0, 1, 2, 3] hr dX3_isBlack_55 (by first | rfl | exact nar_z _ (by omega)) rfl rfl (nl rfl) (nl rfl) ⟨1, rfl, rfl, (by first | omega | rfl | assumption)⟩
      ·
        refine v_aload_n fx 0 dX3_isBlack_18 rfl rfl ?_
        refine v_get fx 0 1 inX3 k249 dX3_isBlack_19 rfl rfl (by decide) rfl rfl rfl ?_
        refine v_iload_n fx 2 dX3_isBlack_22 rfl rfl ?_
        refine v_iload fx 4 dX3_isBlack_23 rfl rfl ?_
        refine v_aload_n fx 0 dX3_isBlack_25 rfl rfl ?_
        refine v_get fx 0 0 inX3 k248 dX3_isBlack_26 rfl rfl (by decide) rfl rfl rfl ?_
        refine v_callV (As := [.int (iI y), .int (iI k), .int (iI w)]) (rest := []) fx [1, 2, 3] [0] [(r, ob 2 [.ref rs, .ref it, .int (iI c)]), (rs, aI g 27 fs), (it, aI g m fi)] [(h0, ob 3 [.int (iI w), .ref r, .ref md, .ref dm, .ref t1, .ref t2, .ref t3, .ref td, .ref src])] 3 0 (c_X2_item l g r rs it m c F fs fi y k w (by exact hp0) (by first | omega | decide | assumption) (by first | omega | decide | assumption) (by first | omega | decide | assumption)) dX3_isBlack_29 k933 k686 k687 k49 k688 ykX2_item rfl rfl rfl rfl rfl rfl rfl rfl (nl rfl) ⟨nl rfl, nl rfl⟩ ⟨(nl rfl), (nl rfl)⟩ rfl (fun v9 w9 hu => ?_)
        obtain ⟨r_5, rfl, rfl, u_6, u_7⟩ := hu
        refine v_is (wn := [(h0, ob 3 [.int (iI w), .ref r, .ref md, .ref dm, .ref t1, .ref t2, .ref t3, .ref td, .ref src]), (r, ob 2 [.ref rs, .ref it, .int (iI c)]), (rs, aI g 27 fs), (it, aI g m fi)]) (cn := 0) (sn := 0) (sn2 := [.int (iI r_5)]) rfl rfl rfl rfl ?_
        clear u_6
        refine v_iload_n fx 1 dX3_isBlack_32 rfl rfl ?_
        refine v_icmp_gt fx 42 dX3_isBlack_33 (by decide) rfl (by omega) (by omega) (fun h_8 => ?_) (fun h_8 => ?_)
        ·
          refine v_iload fx 4 dX3_isBlack_42 rfl rfl ?_
          refine v_iconst fx dX3_isBlack_44 rfl ?_
          refine v_irem fx (iI (k % 2)) dX3_isBlack_45 (by decide) (iI_rem (by omega) 2 (by decide) (by decide)) rfl ?_
          refine v_iconst fx dX3_isBlack_46 rfl ?_
          refine v_icmp_ne fx 54 dX3_isBlack_47 (by decide) rfl (by omega) (by omega) (fun h_9 => ?_) (fun h_9 => ?_)
          ·
            refine v_iconst fx dX3_isBlack_54 rfl ?_
            exact v_zret fx [(h0, ob 3 [.int (iI w), .ref r, .ref md, .ref dm, .ref t1, .ref t2, .ref t3, .ref td, .ref src]), (r, ob 2 [.ref rs, .ref it, .int (iI c)]), (rs, aI g 27 fs), (it, aI g m fi)] [0, 1, 2, 3] hr dX3_isBlack_55 (by first | rfl | exact nar_z _ (by omega)) rfl rfl (nl rfl) (nl rfl) ⟨0, rfl, rfl, (by first | omega | rfl | assumption)⟩
          ·
            refine v_iconst fx dX3_isBlack_50 rfl ?_
            refine v_goto fx 55 dX3_isBlack_51 (by decide) ?_
            exact v_zret fx [(h0, ob 3 [.int (iI w), .ref r, .ref md, .ref dm, .ref t1, .ref t2, .ref t3, .ref td, .ref src]), (r, ob 2 [.ref rs, .ref it, .int (iI c)]), (rs, aI g 27 fs), (it, aI g m fi)] [0, 1, 2, 3] hr dX3_isBlack_55 (by first | rfl | exact nar_z _ (by omega)) rfl rfl (nl rfl) (nl rfl) ⟨1, rfl, rfl, (by first | omega | rfl | assumption)⟩
        ·
          refine v_iinc fx 4 (k + 1) [(4, .int (iI (k + 1))), (0, .ref h0), (1, .int (iI x)), (2, .int (iI y)), (3, .int (iI ln))] dX3_isBlack_36 rfl (by omega) (by decide) rfl rfl ?_
          refine v_goto fx 12 dX3_isBlack_39 (by decide) ?_
          refine v_lv [1, 2, 3, 4, 0] [(0, .ref h0), (1, .int (iI x)), (2, .int (iI y)), (3, .int (iI ln)), (4, .int (iI (k + 1)))] rfl ?_
          exact ihL12 (k + 1) (by omega) (by omega)
  refine v_ws [0, 2, 3, 1] [(h0, ob 3 [.int (iI w), .ref r, .ref md, .ref dm, .ref t1, .ref t2, .ref t3, .ref td, .ref src]), (r, ob 2 [.ref rs, .ref it, .int (iI c)]), (rs, aI g 27 fs), (it, aI g m fi)] rfl rfl ?_
  refine v_lv [2, 3, 4, 1, 0] [(0, .ref h0), (1, .int (iI x)), (2, .int (iI y)), (3, .int (iI ln)), (4, .int (iI 0))] rfl ?_
  exact L12 _ 0 (by omega) (Nat.lt_succ_self _)
theorem dX3_wasDamaged_0 : decode cX3_wasDamaged 0 = .ok (.aload_n 0, 1) := by decide +kernel
theorem dX3_wasDamaged_1 : decode cX3_wasDamaged 1 = .ok (.getfield 12, 3) := by decide +kernel
theorem dX3_wasDamaged_4 : decode cX3_wasDamaged 4 = .ok (.iload_n 1, 1) := by decide +kernel
theorem dX3_wasDamaged_5 : decode cX3_wasDamaged 5 = .ok (.invokevirtual 83, 3) := by decide +kernel
theorem dX3_wasDamaged_8 : decode cX3_wasDamaged 8 = .ok (.ifCond .eq 25, 3) := by decide +kernel
theorem dX3_wasDamaged_11 : decode cX3_wasDamaged 11 = .ok (.iload_n 1, 1) := by decide +kernel
theorem dX3_wasDamaged_12 : decode cX3_wasDamaged 12 = .ok (.aload_n 0, 1) := by decide +kernel
theorem dX3_wasDamaged_13 : decode cX3_wasDamaged 13 = .ok (.getfield 21, 3) := by decide +kernel
theorem dX3_wasDamaged_16 : decode cX3_wasDamaged 16 = .ok (.arraylength, 1) := by decide +kernel
theorem dX3_wasDamaged_17 : decode cX3_wasDamaged 17 = .ok (.if_icmp .ge 16, 3) := by decide +kernel
theorem dX3_wasDamaged_20 : decode cX3_wasDamaged 20 = .ok (.aload_n 0, 1) := by decide +kernel
theorem dX3_wasDamaged_21 : decode cX3_wasDamaged 21 = .ok (.getfield 21, 3) := by decide +kernel
theorem dX3_wasDamaged_24 : decode cX3_wasDamaged 24 = .ok (.iload_n 1, 1) := by decide +kernel
theorem dX3_wasDamaged_25 : decode cX3_wasDamaged 25 = .ok (.baload, 1) := by decide +kernel
theorem dX3_wasDamaged_26 : decode cX3_wasDamaged 26 = .ok (.ifCond .eq 7, 3) := by decide +kernel
theorem dX3_wasDamaged_29 : decode cX3_wasDamaged 29 = .ok (.iconst 1, 1) := by decide +kernel
theorem dX3_wasDamaged_30 : decode cX3_wasDamaged 30 = .ok (.goto 4, 3) := by decide +kernel
theorem dX3_wasDamaged_33 : decode cX3_wasDamaged 33 = .ok (.iconst 0, 1) := by decide +kernel
theorem dX3_wasDamaged_34 : decode cX3_wasDamaged 34 = .ok (.ireturn, 1) := by decide +kernel
abbrev po_c_X3_wasDamaged (g : GG) (h0 : Nat) (w : Int) (r : Nat) (md : Nat) (dm : Nat) (t1 : Nat) (t2 : Nat) (t3 : Nat) (td : Nat) (src : Nat) (rs : Nat) (it : Nat) (m : Nat) (c : Int) (F : Nat → Int) (fs : Nat → Int32) (fi : Nat → Int32) (x : Int) (fz : Nat → Int32) : Option Value → va_W → Prop := fun v8 w8 => ∃ q : Int, v8 = some (.int (iI q)) ∧ w8 = [(h0, ob 3 [.int (iI w), .ref r, .ref md, .ref dm, .ref t1, .ref t2, .ref t3, .ref td, .ref src]), (r, ob 2 [.ref rs, .ref it, .int (iI c)]), (dm, aZ g 25 fz)] ∧ (0 ≤ q ∧ q ≤ 1)
set_option maxHeartbeats 4000000 in
set_option maxRecDepth 100000 in
theorem c_X3_wasDamaged (l : Launch) (g : GG) (h0 : Nat) (w : Int) (r : Nat) (md : Nat) (dm : Nat) (t1 : Nat) (t2 : Nat) (t3 : Nat) (td : Nat) (src : Nat) (rs : Nat) (it : Nat) (m : Nat) (c : Int) (F : Nat → Int) (fs : Nat → Int32) (fi : Nat → Int32) (x : Int) (fz : Nat → Int32) (hp0 : -2147483648 ≤ x ∧ x < 2147483648) (hp1 : -2147483648 ≤ c ∧ c < 2147483648) : Ct l g yX3_wasDamaged (wM yX3_wasDamaged cX3_wasDamaged 2 (some .boolean)) (rmD 1 0 0) [.ref h0, .int (iI x)] [(h0, ob 3 [.int (iI w), .ref r, .ref md, .ref dm, .ref t1, .ref t2, .ref t3, .ref td, .ref src]), (r, ob 2 [.ref rs, .ref it, .int (iI c)]), (dm, aZ g 25 fz)] (po_c_X3_wasDamaged g h0 w r md dm t1 t2 t3 td src rs it m c F fs fi x fz) := by
  refine Ct_of (by decide +kernel) (Nat.le_of_ble_eq_true rfl) ?_
  intro p9 e9 s9 m9 ag9 bl9 mt9 c9 A9 fx hr hnm
  refine v_aload_n fx 0 dX3_wasDamaged_0 rfl rfl ?_
  refine v_get fx 0 1 inX3 k249 dX3_wasDamaged_1 rfl rfl (by decide) rfl rfl rfl ?_
  refine v_iload_n fx 1 dX3_wasDamaged_4 rfl rfl ?_
  refine v_callV (As := [.int (iI x)]) (rest := []) fx [1] [0, 2] [(r, ob 2 [.ref rs, .ref it, .int (iI c)])] [(h0, ob 3 [.int (iI w), .ref r, .ref md, .ref dm, .ref t1, .ref t2, .ref t3, .ref td, .ref src]), (dm, aZ g 25 fz)] 1 0 (c_X2_has l g r rs it c x (by first | omega | decide | assumption) (by first | omega | decide | assumption)) dX3_wasDamaged_5 k921 k922 k923 k49 k924 ykX2_has rfl rfl rfl rfl rfl rfl rfl rfl (nl rfl) ⟨nl rfl, nl rfl⟩ ⟨(nl rfl), (nl rfl)⟩ rfl (fun v9 w9 hu => ?_)
  obtain ⟨r_1, rfl, rfl, u_2⟩ := hu
  refine v_is (wn := [(h0, ob 3 [.int (iI w), .ref r, .ref md, .ref dm, .ref t1, .ref t2, .ref t3, .ref td, .ref src]), (dm, aZ g 25 fz), (r, ob 2 [.ref rs, .ref it, .int (iI c)])]) (cn := 0) (sn := 0) (sn2 := [.int (iI r_1)]) rfl rfl rfl rfl ?_
  refine v_if_eq fx 33 dX3_wasDamaged_8 (by decide) rfl (by omega) (fun h_3 => ?_) (fun h_3 => ?_)
  ·
    refine v_iconst fx dX3_wasDamaged_33 rfl ?_
    exact v_zret fx [(h0, ob 3 [.int (iI w), .ref r, .ref md, .ref dm, .ref t1, .ref t2, .ref t3, .ref td, .ref src]), (r, ob 2 [.ref rs, .ref it, .int (iI c)]), (dm, aZ g 25 fz)] [0, 2, 1] hr dX3_wasDamaged_34 (by first | rfl | exact nar_z _ (by omega)) rfl rfl (nl rfl) (nl rfl) ⟨0, rfl, rfl, (by first | omega | rfl | assumption)⟩
  ·
    refine v_iload_n fx 1 dX3_wasDamaged_11 rfl rfl ?_
    refine v_aload_n fx 0 dX3_wasDamaged_12 rfl rfl ?_
    refine v_get fx 0 3 inX3 k251 dX3_wasDamaged_13 rfl rfl (by decide) rfl rfl rfl ?_
    refine v_alen fx 1 2 25 dX3_wasDamaged_16 rfl rfl rfl rfl ?_
    refine v_icmp_ge fx 33 dX3_wasDamaged_17 (by decide) rfl (by omega) (by omega) (fun h_4 => ?_) (fun h_4 => ?_)
    ·
      refine v_iconst fx dX3_wasDamaged_33 rfl ?_
      exact v_zret fx [(h0, ob 3 [.int (iI w), .ref r, .ref md, .ref dm, .ref t1, .ref t2, .ref t3, .ref td, .ref src]), (r, ob 2 [.ref rs, .ref it, .int (iI c)]), (dm, aZ g 25 fz)] [0, 2, 1] hr dX3_wasDamaged_34 (by first | rfl | exact nar_z _ (by omega)) rfl rfl (nl rfl) (nl rfl) ⟨0, rfl, rfl, (by first | omega | rfl | assumption)⟩
    ·
      refine v_aload_n fx 0 dX3_wasDamaged_20 rfl rfl ?_
      refine v_get fx 0 3 inX3 k251 dX3_wasDamaged_21 rfl rfl (by decide) rfl rfl rfl ?_
      refine v_iload_n fx 1 dX3_wasDamaged_24 rfl rfl ?_
      refine v_zald fx 1 dX3_wasDamaged_25 rfl (by omega) (by omega) rfl ?_
      refine v_any (fun z_5 hz_5 ez_5 => ?_)
      refine v_if_eq fx 33 dX3_wasDamaged_26 (by decide) rfl (by omega) (fun h_6 => ?_) (fun h_6 => ?_)
      ·
        refine v_iconst fx dX3_wasDamaged_33 rfl ?_
        exact v_zret fx [(h0, ob 3 [.int (iI w), .ref r, .ref md, .ref dm, .ref t1, .ref t2, .ref t3, .ref td, .ref src]), (r, ob 2 [.ref rs, .ref it, .int (iI c)]), (dm, aZ g 25 fz)] [0, 2, 1] hr dX3_wasDamaged_34 (by first | rfl | exact nar_z _ (by omega)) rfl rfl (nl rfl) (nl rfl) ⟨0, rfl, rfl, (by first | omega | rfl | assumption)⟩
      ·
        refine v_iconst fx dX3_wasDamaged_29 rfl ?_
        refine v_goto fx 34 dX3_wasDamaged_30 (by decide) ?_
        exact v_zret fx [(h0, ob 3 [.int (iI w), .ref r, .ref md, .ref dm, .ref t1, .ref t2, .ref t3, .ref td, .ref src]), (r, ob 2 [.ref rs, .ref it, .int (iI c)]), (dm, aZ g 25 fz)] [0, 2, 1] hr dX3_wasDamaged_34 (by first | rfl | exact nar_z _ (by omega)) rfl rfl (nl rfl) (nl rfl) ⟨1, rfl, rfl, (by first | omega | rfl | assumption)⟩
theorem dX3_changeOf_0 : decode cX3_changeOf 0 = .ok (.aload_n 0, 1) := by decide +kernel
theorem dX3_changeOf_1 : decode cX3_changeOf 1 = .ok (.getfield 12, 3) := by decide +kernel
theorem dX3_changeOf_4 : decode cX3_changeOf 4 = .ok (.iload_n 1, 1) := by decide +kernel
theorem dX3_changeOf_5 : decode cX3_changeOf 5 = .ok (.invokevirtual 83, 3) := by decide +kernel
theorem dX3_changeOf_8 : decode cX3_changeOf 8 = .ok (.ifCond .eq 16, 3) := by decide +kernel
theorem dX3_changeOf_11 : decode cX3_changeOf 11 = .ok (.aload_n 0, 1) := by decide +kernel
theorem dX3_changeOf_12 : decode cX3_changeOf 12 = .ok (.getfield 12, 3) := by decide +kernel
theorem dX3_changeOf_15 : decode cX3_changeOf 15 = .ok (.iload_n 1, 1) := by decide +kernel
theorem dX3_changeOf_16 : decode cX3_changeOf 16 = .ok (.iload_n 2, 1) := by decide +kernel
theorem dX3_changeOf_17 : decode cX3_changeOf 17 = .ok (.iconst (-1), 1) := by decide +kernel
theorem dX3_changeOf_18 : decode cX3_changeOf 18 = .ok (.invokevirtual 91, 3) := by decide +kernel
theorem dX3_changeOf_21 : decode cX3_changeOf 21 = .ok (.goto 4, 3) := by decide +kernel
theorem dX3_changeOf_24 : decode cX3_changeOf 24 = .ok (.iconst (-1), 1) := by decide +kernel
theorem dX3_changeOf_25 : decode cX3_changeOf 25 = .ok (.ireturn, 1) := by decide +kernel
abbrev po_c_X3_changeOf (g : GG) (h0 : Nat) (w : Int) (r : Nat) (md : Nat) (dm : Nat) (t1 : Nat) (t2 : Nat) (t3 : Nat) (td : Nat) (src : Nat) (rs : Nat) (it : Nat) (m : Nat) (c : Int) (F : Nat → Int) (fs : Nat → Int32) (fi : Nat → Int32) (x : Int) (k : Int) : Option Value → va_W → Prop := fun v8 w8 => ∃ q : Int, v8 = some (.int (iI q)) ∧ w8 = [(h0, ob 3 [.int (iI w), .ref r, .ref md, .ref dm, .ref t1, .ref t2, .ref t3, .ref td, .ref src]), (r, ob 2 [.ref rs, .ref it, .int (iI c)]), (rs, aI g 27 fs), (it, aI g m fi)] ∧ (-2147483648 ≤ q ∧ q < 2147483648)
set_option maxHeartbeats 4000000 in
set_option maxRecDepth 100000 in
theorem c_X3_changeOf (l : Launch) (g : GG) (h0 : Nat) (w : Int) (r : Nat) (md : Nat) (dm : Nat) (t1 : Nat) (t2 : Nat) (t3 : Nat) (td : Nat) (src : Nat) (rs : Nat) (it : Nat) (m : Nat) (c : Int) (F : Nat → Int) (fs : Nat → Int32) (fi : Nat → Int32) (x : Int) (k : Int) (hp0 : LB c F fs m) (hp1 : -2147483648 ≤ x ∧ x < 2147483648) (hp2 : -2147483648 ≤ k ∧ k < 2147483648) : Ct l g yX3_changeOf (wM yX3_changeOf cX3_changeOf 3 (some .int)) (rmD 1 0 0) [.ref h0, .int (iI x), .int (iI k)] [(h0, ob 3 [.int (iI w), .ref r, .ref md, .ref dm, .ref t1, .ref t2, .ref t3, .ref td, .ref src]), (r, ob 2 [.ref rs, .ref it, .int (iI c)]), (rs, aI g 27 fs), (it, aI g m fi)] (po_c_X3_changeOf g h0 w r md dm t1 t2 t3 td src rs it m c F fs fi x k) := by
  refine Ct_of (by decide +kernel) (Nat.le_of_ble_eq_true rfl) ?_
  intro p9 e9 s9 m9 ag9 bl9 mt9 c9 A9 fx hr hnm
  have hc := LB_c hp0
  refine v_aload_n fx 0 dX3_changeOf_0 rfl rfl ?_
  refine v_get fx 0 1 inX3 k249 dX3_changeOf_1 rfl rfl (by decide) rfl rfl rfl ?_
  refine v_iload_n fx 1 dX3_changeOf_4 rfl rfl ?_
  refine v_callV (As := [.int (iI x)]) (rest := []) fx [1] [0, 2, 3] [(r, ob 2 [.ref rs, .ref it, .int (iI c)])] [(h0, ob 3 [.int (iI w), .ref r, .ref md, .ref dm, .ref t1, .ref t2, .ref t3, .ref td, .ref src]), (rs, aI g 27 fs), (it, aI g m fi)] 1 0 (c_X2_has l g r rs it c x (by first | omega | decide | assumption) (by first | omega | decide | assumption)) dX3_changeOf_5 k921 k922 k923 k49 k924 ykX2_has rfl rfl rfl rfl rfl rfl rfl rfl (nl rfl) ⟨nl rfl, nl rfl⟩ ⟨(nl rfl), (nl rfl)⟩ rfl (fun v9 w9 hu => ?_)
  obtain ⟨r_1, rfl, rfl, u_2⟩ := hu
  refine v_is (wn := [(h0, ob 3 [.int (iI w), .ref r, .ref md, .ref dm, .ref t1, .ref t2, .ref t3, .ref td, .ref src]), (rs, aI g 27 fs), (it, aI g m fi), (r, ob 2 [.ref rs, .ref it, .int (iI c)])]) (cn := 0) (sn := 0) (sn2 := [.int (iI r_1)]) rfl rfl rfl rfl ?_
  refine v_if_eq fx 24 dX3_changeOf_8 (by decide) rfl (by omega) (fun h_3 => ?_) (fun h_3 => ?_)
  ·
    refine v_iconst fx dX3_changeOf_24 rfl ?_
    exact v_iret fx [(h0, ob 3 [.int (iI w), .ref r, .ref md, .ref dm, .ref t1, .ref t2, .ref t3, .ref td, .ref src]), (r, ob 2 [.ref rs, .ref it, .int (iI c)]), (rs, aI g 27 fs), (it, aI g m fi)] [0, 3, 1, 2] hr dX3_changeOf_25 rfl rfl (nl rfl) (nl rfl) ⟨(-1), rfl, rfl, (by first | omega | rfl | assumption)⟩
  ·
    refine v_aload_n fx 0 dX3_changeOf_11 rfl rfl ?_
    refine v_get fx 0 1 inX3 k249 dX3_changeOf_12 rfl rfl (by decide) rfl rfl rfl ?_
    refine v_iload_n fx 1 dX3_changeOf_15 rfl rfl ?_
    refine v_iload_n fx 2 dX3_changeOf_16 rfl rfl ?_
    refine v_iconst fx dX3_changeOf_17 rfl ?_
    refine v_callV (As := [.int (iI x), .int (iI k), .int (iI (-1))]) (rest := []) fx [3, 1, 2] [0] [(r, ob 2 [.ref rs, .ref it, .int (iI c)]), (rs, aI g 27 fs), (it, aI g m fi)] [(h0, ob 3 [.int (iI w), .ref r, .ref md, .ref dm, .ref t1, .ref t2, .ref t3, .ref td, .ref src])] 3 0 (c_X2_item l g r rs it m c F fs fi x k (-1) (by exact hp0) (by first | omega | decide | assumption) (by first | omega | decide | assumption) (by first | omega | decide | assumption)) dX3_changeOf_18 k933 k686 k687 k49 k688 ykX2_item rfl rfl rfl rfl rfl rfl rfl rfl (nl rfl) ⟨nl rfl, nl rfl⟩ ⟨(nl rfl), (nl rfl)⟩ rfl (fun v9 w9 hu => ?_)
    obtain ⟨r_4, rfl, rfl, u_5, u_6⟩ := hu
    refine v_is (wn := [(h0, ob 3 [.int (iI w), .ref r, .ref md, .ref dm, .ref t1, .ref t2, .ref t3, .ref td, .ref src]), (r, ob 2 [.ref rs, .ref it, .int (iI c)]), (rs, aI g 27 fs), (it, aI g m fi)]) (cn := 0) (sn := 0) (sn2 := [.int (iI r_4)]) rfl rfl rfl rfl ?_
    refine v_goto fx 25 dX3_changeOf_21 (by decide) ?_
    exact v_iret fx [(h0, ob 3 [.int (iI w), .ref r, .ref md, .ref dm, .ref t1, .ref t2, .ref t3, .ref td, .ref src]), (r, ob 2 [.ref rs, .ref it, .int (iI c)]), (rs, aI g 27 fs), (it, aI g m fi)] [0, 1, 2, 3] hr dX3_changeOf_25 rfl rfl (nl rfl) (nl rfl) ⟨r_4, rfl, rfl, (by first | omega | rfl | assumption)⟩
theorem dX3_modeOf_0 : decode cX3_modeOf 0 = .ok (.aload_n 0, 1) := by decide +kernel
theorem dX3_modeOf_1 : decode cX3_modeOf 1 = .ok (.getfield 18, 3) := by decide +kernel
theorem dX3_modeOf_4 : decode cX3_modeOf 4 = .ok (.iload_n 1, 1) := by decide +kernel
theorem dX3_modeOf_5 : decode cX3_modeOf 5 = .ok (.invokevirtual 83, 3) := by decide +kernel
theorem dX3_modeOf_8 : decode cX3_modeOf 8 = .ok (.ifCond .eq 16, 3) := by decide +kernel
theorem dX3_modeOf_11 : decode cX3_modeOf 11 = .ok (.aload_n 0, 1) := by decide +kernel
theorem dX3_modeOf_12 : decode cX3_modeOf 12 = .ok (.getfield 18, 3) := by decide +kernel
theorem dX3_modeOf_15 : decode cX3_modeOf 15 = .ok (.iload_n 1, 1) := by decide +kernel
theorem dX3_modeOf_16 : decode cX3_modeOf 16 = .ok (.iload_n 2, 1) := by decide +kernel
theorem dX3_modeOf_17 : decode cX3_modeOf 17 = .ok (.iconst (-1), 1) := by decide +kernel
theorem dX3_modeOf_18 : decode cX3_modeOf 18 = .ok (.invokevirtual 91, 3) := by decide +kernel
theorem dX3_modeOf_21 : decode cX3_modeOf 21 = .ok (.goto 4, 3) := by decide +kernel
theorem dX3_modeOf_24 : decode cX3_modeOf 24 = .ok (.iconst (-1), 1) := by decide +kernel
theorem dX3_modeOf_25 : decode cX3_modeOf 25 = .ok (.ireturn, 1) := by decide +kernel
abbrev po_c_X3_modeOf (g : GG) (h0 : Nat) (w : Int) (r : Nat) (md : Nat) (dm : Nat) (t1 : Nat) (t2 : Nat) (t3 : Nat) (td : Nat) (src : Nat) (ms : Nat) (mi : Nat) (mm : Nat) (cm : Int) (G : Nat → Int) (gs : Nat → Int32) (gi : Nat → Int32) (x : Int) (k : Int) : Option Value → va_W → Prop := fun v8 w8 => ∃ q : Int, v8 = some (.int (iI q)) ∧ w8 = [(h0, ob 3 [.int (iI w), .ref r, .ref md, .ref dm, .ref t1, .ref t2, .ref t3, .ref td, .ref src]), (md, ob 2 [.ref ms, .ref mi, .int (iI cm)]), (ms, aI g 27 gs), (mi, aI g mm gi)] ∧ (-2147483648 ≤ q ∧ q < 2147483648)
set_option maxHeartbeats 4000000 in
set_option maxRecDepth 100000 in
theorem c_X3_modeOf (l : Launch) (g : GG) (h0 : Nat) (w : Int) (r : Nat) (md : Nat) (dm : Nat) (t1 : Nat) (t2 : Nat) (t3 : Nat) (td : Nat) (src : Nat) (ms : Nat) (mi : Nat) (mm : Nat) (cm : Int) (G : Nat → Int) (gs : Nat → Int32) (gi : Nat → Int32) (x : Int) (k : Int) (hp0 : LB cm G gs mm) (hp1 : -2147483648 ≤ x ∧ x < 2147483648) (hp2 : -2147483648 ≤ k ∧ k < 2147483648) : Ct l g yX3_modeOf (wM yX3_modeOf cX3_modeOf 3 (some .int)) (rmD 1 0 0) [.ref h0, .int (iI x), .int (iI k)] [(h0, ob 3 [.int (iI w), .ref r, .ref md, .ref dm, .ref t1, .ref t2, .ref t3, .ref td, .ref src]), (md, ob 2 [.ref ms, .ref mi, .int (iI cm)]), (ms, aI g 27 gs), (mi, aI g mm gi)] (po_c_X3_modeOf g h0 w r md dm t1 t2 t3 td src ms mi mm cm G gs gi x k) := by
  refine Ct_of (by decide +kernel) (Nat.le_of_ble_eq_true rfl) ?_
  intro p9 e9 s9 m9 ag9 bl9 mt9 c9 A9 fx hr hnm
  have hc := LB_c hp0
  refine v_aload_n fx 0 dX3_modeOf_0 rfl rfl ?_
  refine v_get fx 0 2 inX3 k250 dX3_modeOf_1 rfl rfl (by decide) rfl rfl rfl ?_
  refine v_iload_n fx 1 dX3_modeOf_4 rfl rfl ?_
  refine v_callV (As := [.int (iI x)]) (rest := []) fx [1] [0, 2, 3] [(md, ob 2 [.ref ms, .ref mi, .int (iI cm)])] [(h0, ob 3 [.int (iI w), .ref r, .ref md, .ref dm, .ref t1, .ref t2, .ref t3, .ref td, .ref src]), (ms, aI g 27 gs), (mi, aI g mm gi)] 1 0 (c_X2_has l g md ms mi cm x (by first | omega | decide | assumption) (by first | omega | decide | assumption)) dX3_modeOf_5 k921 k922 k923 k49 k924 ykX2_has rfl rfl rfl rfl rfl rfl rfl rfl (nl rfl) ⟨nl rfl, nl rfl⟩ ⟨(nl rfl), (nl rfl)⟩ rfl (fun v9 w9 hu => ?_)
  obtain ⟨r_1, rfl, rfl, u_2⟩ := hu
  refine v_is (wn := [(h0, ob 3 [.int (iI w), .ref r, .ref md, .ref dm, .ref t1, .ref t2, .ref t3, .ref td, .ref src]), (ms, aI g 27 gs), (mi, aI g mm gi), (md, ob 2 [.ref ms, .ref mi, .int (iI cm)])]) (cn := 0) (sn := 0) (sn2 := [.int (iI r_1)]) rfl rfl rfl rfl ?_
  refine v_if_eq fx 24 dX3_modeOf_8 (by decide) rfl (by omega) (fun h_3 => ?_) (fun h_3 => ?_)
  ·
    refine v_iconst fx dX3_modeOf_24 rfl ?_
    exact v_iret fx [(h0, ob 3 [.int (iI w), .ref r, .ref md, .ref dm, .ref t1, .ref t2, .ref t3, .ref td, .ref src]), (md, ob 2 [.ref ms, .ref mi, .int (iI cm)]), (ms, aI g 27 gs), (mi, aI g mm gi)] [0, 3, 1, 2] hr dX3_modeOf_25 rfl rfl (nl rfl) (nl rfl) ⟨(-1), rfl, rfl, (by first | omega | rfl | assumption)⟩
  ·
    refine v_aload_n fx 0 dX3_modeOf_11 rfl rfl ?_
    refine v_get fx 0 2 inX3 k250 dX3_modeOf_12 rfl rfl (by decide) rfl rfl rfl ?_
    refine v_iload_n fx 1 dX3_modeOf_15 rfl rfl ?_
    refine v_iload_n fx 2 dX3_modeOf_16 rfl rfl ?_
    refine v_iconst fx dX3_modeOf_17 rfl ?_
    refine v_callV (As := [.int (iI x), .int (iI k), .int (iI (-1))]) (rest := []) fx [3, 1, 2] [0] [(md, ob 2 [.ref ms, .ref mi, .int (iI cm)]), (ms, aI g 27 gs), (mi, aI g mm gi)] [(h0, ob 3 [.int (iI w), .ref r, .ref md, .ref dm, .ref t1, .ref t2, .ref t3, .ref td, .ref src])] 3 0 (c_X2_item l g md ms mi mm cm G gs gi x k (-1) (by exact hp0) (by first | omega | decide | assumption) (by first | omega | decide | assumption) (by first | omega | decide | assumption)) dX3_modeOf_18 k933 k686 k687 k49 k688 ykX2_item rfl rfl rfl rfl rfl rfl rfl rfl (nl rfl) ⟨nl rfl, nl rfl⟩ ⟨(nl rfl), (nl rfl)⟩ rfl (fun v9 w9 hu => ?_)
    obtain ⟨r_4, rfl, rfl, u_5, u_6⟩ := hu
    refine v_is (wn := [(h0, ob 3 [.int (iI w), .ref r, .ref md, .ref dm, .ref t1, .ref t2, .ref t3, .ref td, .ref src]), (md, ob 2 [.ref ms, .ref mi, .int (iI cm)]), (ms, aI g 27 gs), (mi, aI g mm gi)]) (cn := 0) (sn := 0) (sn2 := [.int (iI r_4)]) rfl rfl rfl rfl ?_
    refine v_goto fx 25 dX3_modeOf_21 (by decide) ?_
    exact v_iret fx [(h0, ob 3 [.int (iI w), .ref r, .ref md, .ref dm, .ref t1, .ref t2, .ref t3, .ref td, .ref src]), (md, ob 2 [.ref ms, .ref mi, .int (iI cm)]), (ms, aI g 27 gs), (mi, aI g mm gi)] [0, 1, 2, 3] hr dX3_modeOf_25 rfl rfl (nl rfl) (nl rfl) ⟨r_4, rfl, rfl, (by first | omega | rfl | assumption)⟩
theorem dX7_damaged_0 : decode cX7_damaged 0 = .ok (.aload_n 0, 1) := by decide +kernel
theorem dX7_damaged_1 : decode cX7_damaged 1 = .ok (.getfield 65, 3) := by decide +kernel
theorem dX7_damaged_4 : decode cX7_damaged 4 = .ok (.iload_n 1, 1) := by decide +kernel
theorem dX7_damaged_5 : decode cX7_damaged 5 = .ok (.invokevirtual 146, 3) := by decide +kernel
theorem dX7_damaged_8 : decode cX7_damaged 8 = .ok (.ireturn, 1) := by decide +kernel
abbrev po_c_X7_damaged (g : GG) (h0 : Nat) (kd : Int) (w : Int) (sm : Nat) (r : Nat) (wr : Nat) (fd : Nat) (wt : Nat) (rd : Nat) (fl : Int) (rp : Int) (lo : Int) (yr : Nat) (ym : Nat) (yd : Nat) (t1 : Nat) (t2 : Nat) (t3 : Nat) (ytd : Nat) (src : Nat) (rs : Nat) (it : Nat) (m : Nat) (c : Int) (F : Nat → Int) (fs : Nat → Int32) (fi : Nat → Int32) (x : Int) (fz : Nat → Int32) : Option Value → va_W → Prop := fun v8 w8 => ∃ q : Int, v8 = some (.int (iI q)) ∧ w8 = [(h0, ob 7 [.int (iI kd), .int (iI w), .ref sm, .ref r, .ref wr, .ref fd, .ref wt, .ref rd, .int (iI fl), .int (iI rp), .int (iI lo)]), (rd, ob 3 [.int (iI w), .ref yr, .ref ym, .ref yd, .ref t1, .ref t2, .ref t3, .ref ytd, .ref src]), (yr, ob 2 [.ref rs, .ref it, .int (iI c)]), (yd, aZ g 25 fz)] ∧ (0 ≤ q ∧ q ≤ 1)
set_option maxHeartbeats 4000000 in
set_option maxRecDepth 100000 in
theorem c_X7_damaged (l : Launch) (g : GG) (h0 : Nat) (kd : Int) (w : Int) (sm : Nat) (r : Nat) (wr : Nat) (fd : Nat) (wt : Nat) (rd : Nat) (fl : Int) (rp : Int) (lo : Int) (yr : Nat) (ym : Nat) (yd : Nat) (t1 : Nat) (t2 : Nat) (t3 : Nat) (ytd : Nat) (src : Nat) (rs : Nat) (it : Nat) (m : Nat) (c : Int) (F : Nat → Int) (fs : Nat → Int32) (fi : Nat → Int32) (x : Int) (fz : Nat → Int32) (hp0 : -2147483648 ≤ x ∧ x < 2147483648) (hp1 : -2147483648 ≤ c ∧ c < 2147483648) : Ct l g yX7_damaged (wM yX7_damaged cX7_damaged 2 (some .boolean)) (rmD 2 0 0) [.ref h0, .int (iI x)] [(h0, ob 7 [.int (iI kd), .int (iI w), .ref sm, .ref r, .ref wr, .ref fd, .ref wt, .ref rd, .int (iI fl), .int (iI rp), .int (iI lo)]), (rd, ob 3 [.int (iI w), .ref yr, .ref ym, .ref yd, .ref t1, .ref t2, .ref t3, .ref ytd, .ref src]), (yr, ob 2 [.ref rs, .ref it, .int (iI c)]), (yd, aZ g 25 fz)] (po_c_X7_damaged g h0 kd w sm r wr fd wt rd fl rp lo yr ym yd t1 t2 t3 ytd src rs it m c F fs fi x fz) := by
  refine Ct_of (by decide +kernel) (Nat.le_of_ble_eq_true rfl) ?_
  intro p9 e9 s9 m9 ag9 bl9 mt9 c9 A9 fx hr hnm
  refine v_aload_n fx 0 dX7_damaged_0 rfl rfl ?_
  refine v_get fx 0 7 inX7 k283 dX7_damaged_1 rfl rfl (by decide) rfl rfl rfl ?_
  refine v_iload_n fx 1 dX7_damaged_4 rfl rfl ?_
  refine v_callV (As := [.int (iI x)]) (rest := []) fx [1, 2, 3] [0] [(rd, ob 3 [.int (iI w), .ref yr, .ref ym, .ref yd, .ref t1, .ref t2, .ref t3, .ref ytd, .ref src]), (yr, ob 2 [.ref rs, .ref it, .int (iI c)]), (yd, aZ g 25 fz)] [(h0, ob 7 [.int (iI kd), .int (iI w), .ref sm, .ref r, .ref wr, .ref fd, .ref wt, .ref rd, .int (iI fl), .int (iI rp), .int (iI lo)])] 1 0 (c_X3_wasDamaged l g rd w yr ym yd t1 t2 t3 ytd src rs it m c F fs fi x fz (by first | omega | decide | assumption) (by first | omega | decide | assumption)) dX7_damaged_5 k917 k918 k919 k53 k920 ykX3_wasDamaged rfl rfl rfl rfl rfl rfl rfl rfl (nl rfl) ⟨nl rfl, nl rfl⟩ ⟨(nl rfl), (nl rfl)⟩ rfl (fun v9 w9 hu => ?_)
  obtain ⟨q_1, rfl, rfl, u_2⟩ := hu
  refine v_is (wn := [(h0, ob 7 [.int (iI kd), .int (iI w), .ref sm, .ref r, .ref wr, .ref fd, .ref wt, .ref rd, .int (iI fl), .int (iI rp), .int (iI lo)]), (rd, ob 3 [.int (iI w), .ref yr, .ref ym, .ref yd, .ref t1, .ref t2, .ref t3, .ref ytd, .ref src]), (yr, ob 2 [.ref rs, .ref it, .int (iI c)]), (yd, aZ g 25 fz)]) (cn := 0) (sn := 0) (sn2 := [.int (iI q_1)]) rfl rfl rfl rfl ?_
  exact v_zret fx [(h0, ob 7 [.int (iI kd), .int (iI w), .ref sm, .ref r, .ref wr, .ref fd, .ref wt, .ref rd, .int (iI fl), .int (iI rp), .int (iI lo)]), (rd, ob 3 [.int (iI w), .ref yr, .ref ym, .ref yd, .ref t1, .ref t2, .ref t3, .ref ytd, .ref src]), (yr, ob 2 [.ref rs, .ref it, .int (iI c)]), (yd, aZ g 25 fz)] [0, 1, 2, 3] hr dX7_damaged_8 (by first | rfl | exact nar_z _ (by omega)) rfl rfl (nl rfl) (nl rfl) ⟨q_1, rfl, rfl, (by first | omega | rfl | assumption)⟩
theorem dX7_changes_0 : decode cX7_changes 0 = .ok (.aload_n 0, 1) := by decide +kernel
theorem dX7_changes_1 : decode cX7_changes 1 = .ok (.getfield 65, 3) := by decide +kernel
theorem dX7_changes_4 : decode cX7_changes 4 = .ok (.iload_n 1, 1) := by decide +kernel
theorem dX7_changes_5 : decode cX7_changes 5 = .ok (.iload_n 2, 1) := by decide +kernel
theorem dX7_changes_6 : decode cX7_changes 6 = .ok (.invokevirtual 149, 3) := by decide +kernel
theorem dX7_changes_9 : decode cX7_changes 9 = .ok (.ireturn, 1) := by decide +kernel
abbrev po_c_X7_changes (g : GG) (h0 : Nat) (kd : Int) (w : Int) (sm : Nat) (r : Nat) (wr : Nat) (fd : Nat) (wt : Nat) (rd : Nat) (fl : Int) (rp : Int) (lo : Int) (yr : Nat) (ym : Nat) (yd : Nat) (t1 : Nat) (t2 : Nat) (t3 : Nat) (ytd : Nat) (src : Nat) (rs : Nat) (it : Nat) (m : Nat) (c : Int) (F : Nat → Int) (fs : Nat → Int32) (fi : Nat → Int32) (x : Int) (k : Int) : Option Value → va_W → Prop := fun v8 w8 => ∃ q : Int, v8 = some (.int (iI q)) ∧ w8 = [(h0, ob 7 [.int (iI kd), .int (iI w), .ref sm, .ref r, .ref wr, .ref fd, .ref wt, .ref rd, .int (iI fl), .int (iI rp), .int (iI lo)]), (rd, ob 3 [.int (iI w), .ref yr, .ref ym, .ref yd, .ref t1, .ref t2, .ref t3, .ref ytd, .ref src]), (yr, ob 2 [.ref rs, .ref it, .int (iI c)]), (rs, aI g 27 fs), (it, aI g m fi)] ∧ (-2147483648 ≤ q ∧ q < 2147483648)
set_option maxHeartbeats 4000000 in
set_option maxRecDepth 100000 in
theorem c_X7_changes (l : Launch) (g : GG) (h0 : Nat) (kd : Int) (w : Int) (sm : Nat) (r : Nat) (wr : Nat) (fd : Nat) (wt : Nat) (rd : Nat) (fl : Int) (rp : Int) (lo : Int) (yr : Nat) (ym : Nat) (yd : Nat) (t1 : Nat) (t2 : Nat) (t3 : Nat) (ytd : Nat) (src : Nat) (rs : Nat) (it : Nat) (m : Nat) (c : Int) (F : Nat → Int) (fs : Nat → Int32) (fi : Nat → Int32) (x : Int) (k : Int) (hp0 : LB c F fs m) (hp1 : -2147483648 ≤ x ∧ x < 2147483648) (hp2 : -2147483648 ≤ k ∧ k < 2147483648) : Ct l g yX7_changes (wM yX7_changes cX7_changes 3 (some .int)) (rmD 2 0 0) [.ref h0, .int (iI x), .int (iI k)] [(h0, ob 7 [.int (iI kd), .int (iI w), .ref sm, .ref r, .ref wr, .ref fd, .ref wt, .ref rd, .int (iI fl), .int (iI rp), .int (iI lo)]), (rd, ob 3 [.int (iI w), .ref yr, .ref ym, .ref yd, .ref t1, .ref t2, .ref t3, .ref ytd, .ref src]), (yr, ob 2 [.ref rs, .ref it, .int (iI c)]), (rs, aI g 27 fs), (it, aI g m fi)] (po_c_X7_changes g h0 kd w sm r wr fd wt rd fl rp lo yr ym yd t1 t2 t3 ytd src rs it m c F fs fi x k) := by
  refine Ct_of (by decide +kernel) (Nat.le_of_ble_eq_true rfl) ?_
  intro p9 e9 s9 m9 ag9 bl9 mt9 c9 A9 fx hr hnm
  refine v_aload_n fx 0 dX7_changes_0 rfl rfl ?_
  refine v_get fx 0 7 inX7 k283 dX7_changes_1 rfl rfl (by decide) rfl rfl rfl ?_
  refine v_iload_n fx 1 dX7_changes_4 rfl rfl ?_
  refine v_iload_n fx 2 dX7_changes_5 rfl rfl ?_
  refine v_callV (As := [.int (iI x), .int (iI k)]) (rest := []) fx [1, 2, 3, 4] [0] [(rd, ob 3 [.int (iI w), .ref yr, .ref ym, .ref yd, .ref t1, .ref t2, .ref t3, .ref ytd, .ref src]), (yr, ob 2 [.ref rs, .ref it, .int (iI c)]), (rs, aI g 27 fs), (it, aI g m fi)] [(h0, ob 7 [.int (iI kd), .int (iI w), .ref sm, .ref r, .ref wr, .ref fd, .ref wt, .ref rd, .int (iI fl), .int (iI rp), .int (iI lo)])] 2 0 (c_X3_changeOf l g rd w yr ym yd t1 t2 t3 ytd src rs it m c F fs fi x k (by exact hp0) (by first | omega | decide | assumption) (by first | omega | decide | assumption)) dX7_changes_6 k929 k930 k931 k53 k932 ykX3_changeOf rfl rfl rfl rfl rfl rfl rfl rfl (nl rfl) ⟨nl rfl, nl rfl⟩ ⟨(nl rfl), (nl rfl)⟩ rfl (fun v9 w9 hu => ?_)
  obtain ⟨q_1, rfl, rfl, u_2⟩ := hu
  refine v_is (wn := [(h0, ob 7 [.int (iI kd), .int (iI w), .ref sm, .ref r, .ref wr, .ref fd, .ref wt, .ref rd, .int (iI fl), .int (iI rp), .int (iI lo)]), (rd, ob 3 [.int (iI w), .ref yr, .ref ym, .ref yd, .ref t1, .ref t2, .ref t3, .ref ytd, .ref src]), (yr, ob 2 [.ref rs, .ref it, .int (iI c)]), (rs, aI g 27 fs), (it, aI g m fi)]) (cn := 0) (sn := 0) (sn2 := [.int (iI q_1)]) rfl rfl rfl rfl ?_
  exact v_iret fx [(h0, ob 7 [.int (iI kd), .int (iI w), .ref sm, .ref r, .ref wr, .ref fd, .ref wt, .ref rd, .int (iI fl), .int (iI rp), .int (iI lo)]), (rd, ob 3 [.int (iI w), .ref yr, .ref ym, .ref yd, .ref t1, .ref t2, .ref t3, .ref ytd, .ref src]), (yr, ob 2 [.ref rs, .ref it, .int (iI c)]), (rs, aI g 27 fs), (it, aI g m fi)] [0, 1, 2, 3, 4] hr dX7_changes_9 rfl rfl (nl rfl) (nl rfl) ⟨q_1, rfl, rfl, (by first | omega | rfl | assumption)⟩
theorem dX7_mode_0 : decode cX7_mode 0 = .ok (.aload_n 0, 1) := by decide +kernel
theorem dX7_mode_1 : decode cX7_mode 1 = .ok (.getfield 65, 3) := by decide +kernel
theorem dX7_mode_4 : decode cX7_mode 4 = .ok (.iload_n 1, 1) := by decide +kernel
theorem dX7_mode_5 : decode cX7_mode 5 = .ok (.iload_n 2, 1) := by decide +kernel
theorem dX7_mode_6 : decode cX7_mode 6 = .ok (.invokevirtual 152, 3) := by decide +kernel
theorem dX7_mode_9 : decode cX7_mode 9 = .ok (.ireturn, 1) := by decide +kernel
abbrev po_c_X7_mode (g : GG) (h0 : Nat) (kd : Int) (w : Int) (sm : Nat) (r : Nat) (wr : Nat) (fd : Nat) (wt : Nat) (rd : Nat) (fl : Int) (rp : Int) (lo : Int) (yr : Nat) (ym : Nat) (yd : Nat) (t1 : Nat) (t2 : Nat) (t3 : Nat) (ytd : Nat) (src : Nat) (ms : Nat) (mi : Nat) (mm : Nat) (cm : Int) (G : Nat → Int) (gs : Nat → Int32) (gi : Nat → Int32) (x : Int) (k : Int) : Option Value → va_W → Prop := fun v8 w8 => ∃ q : Int, v8 = some (.int (iI q)) ∧ w8 = [(h0, ob 7 [.int (iI kd), .int (iI w), .ref sm, .ref r, .ref wr, .ref fd, .ref wt, .ref rd, .int (iI fl), .int (iI rp), .int (iI lo)]), (rd, ob 3 [.int (iI w), .ref yr, .ref ym, .ref yd, .ref t1, .ref t2, .ref t3, .ref ytd, .ref src]), (ym, ob 2 [.ref ms, .ref mi, .int (iI cm)]), (ms, aI g 27 gs), (mi, aI g mm gi)] ∧ (-2147483648 ≤ q ∧ q < 2147483648)
set_option maxHeartbeats 4000000 in
set_option maxRecDepth 100000 in
theorem c_X7_mode (l : Launch) (g : GG) (h0 : Nat) (kd : Int) (w : Int) (sm : Nat) (r : Nat) (wr : Nat) (fd : Nat) (wt : Nat) (rd : Nat) (fl : Int) (rp : Int) (lo : Int) (yr : Nat) (ym : Nat) (yd : Nat) (t1 : Nat) (t2 : Nat) (t3 : Nat) (ytd : Nat) (src : Nat) (ms : Nat) (mi : Nat) (mm : Nat) (cm : Int) (G : Nat → Int) (gs : Nat → Int32) (gi : Nat → Int32) (x : Int) (k : Int) (hp0 : LB cm G gs mm) (hp1 : -2147483648 ≤ x ∧ x < 2147483648) (hp2 : -2147483648 ≤ k ∧ k < 2147483648) : Ct l g yX7_mode (wM yX7_mode cX7_mode 3 (some .int)) (rmD 2 0 0) [.ref h0, .int (iI x), .int (iI k)] [(h0, ob 7 [.int (iI kd), .int (iI w), .ref sm, .ref r, .ref wr, .ref fd, .ref wt, .ref rd, .int (iI fl), .int (iI rp), .int (iI lo)]), (rd, ob 3 [.int (iI w), .ref yr, .ref ym, .ref yd, .ref t1, .ref t2, .ref t3, .ref ytd, .ref src]), (ym, ob 2 [.ref ms, .ref mi, .int (iI cm)]), (ms, aI g 27 gs), (mi, aI g mm gi)] (po_c_X7_mode g h0 kd w sm r wr fd wt rd fl rp lo yr ym yd t1 t2 t3 ytd src ms mi mm cm G gs gi x k) := by
  refine Ct_of (by decide +kernel) (Nat.le_of_ble_eq_true rfl) ?_
  intro p9 e9 s9 m9 ag9 bl9 mt9 c9 A9 fx hr hnm
  refine v_aload_n fx 0 dX7_mode_0 rfl rfl ?_
  refine v_get fx 0 7 inX7 k283 dX7_mode_1 rfl rfl (by decide) rfl rfl rfl ?_
  refine v_iload_n fx 1 dX7_mode_4 rfl rfl ?_
  refine v_iload_n fx 2 dX7_mode_5 rfl rfl ?_
  refine v_callV (As := [.int (iI x), .int (iI k)]) (rest := []) fx [1, 2, 3, 4] [0] [(rd, ob 3 [.int (iI w), .ref yr, .ref ym, .ref yd, .ref t1, .ref t2, .ref t3, .ref ytd, .ref src]), (ym, ob 2 [.ref ms, .ref mi, .int (iI cm)]), (ms, aI g 27 gs), (mi, aI g mm gi)] [(h0, ob 7 [.int (iI kd), .int (iI w), .ref sm, .ref r, .ref wr, .ref fd, .ref wt, .ref rd, .int (iI fl), .int (iI rp), .int (iI lo)])] 2 0 (c_X3_modeOf l g rd w yr ym yd t1 t2 t3 ytd src ms mi mm cm G gs gi x k (by exact hp0) (by first | omega | decide | assumption) (by first | omega | decide | assumption)) dX7_mode_6 k938 k939 k940 k53 k941 ykX3_modeOf rfl rfl rfl rfl rfl rfl rfl rfl (nl rfl) ⟨nl rfl, nl rfl⟩ ⟨(nl rfl), (nl rfl)⟩ rfl (fun v9 w9 hu => ?_)
  obtain ⟨q_1, rfl, rfl, u_2⟩ := hu
  refine v_is (wn := [(h0, ob 7 [.int (iI kd), .int (iI w), .ref sm, .ref r, .ref wr, .ref fd, .ref wt, .ref rd, .int (iI fl), .int (iI rp), .int (iI lo)]), (rd, ob 3 [.int (iI w), .ref yr, .ref ym, .ref yd, .ref t1, .ref t2, .ref t3, .ref ytd, .ref src]), (ym, ob 2 [.ref ms, .ref mi, .int (iI cm)]), (ms, aI g 27 gs), (mi, aI g mm gi)]) (cn := 0) (sn := 0) (sn2 := [.int (iI q_1)]) rfl rfl rfl rfl ?_
  exact v_iret fx [(h0, ob 7 [.int (iI kd), .int (iI w), .ref sm, .ref r, .ref wr, .ref fd, .ref wt, .ref rd, .int (iI fl), .int (iI rp), .int (iI lo)]), (rd, ob 3 [.int (iI w), .ref yr, .ref ym, .ref yd, .ref t1, .ref t2, .ref t3, .ref ytd, .ref src]), (ym, ob 2 [.ref ms, .ref mi, .int (iI cm)]), (ms, aI g 27 gs), (mi, aI g mm gi)] [0, 1, 2, 3, 4] hr dX7_mode_9 rfl rfl (nl rfl) (nl rfl) ⟨q_1, rfl, rfl, (by first | omega | rfl | assumption)⟩
theorem dX7_clear_0 : decode cX7_clear 0 = .ok (.aload_n 0, 1) := by decide +kernel
theorem dX7_clear_1 : decode cX7_clear 1 = .ok (.getfield 30, 3) := by decide +kernel
theorem dX7_clear_4 : decode cX7_clear 4 = .ok (.invokevirtual 84, 3) := by decide +kernel
theorem dX7_clear_7 : decode cX7_clear 7 = .ok (.aload_n 0, 1) := by decide +kernel
theorem dX7_clear_8 : decode cX7_clear 8 = .ok (.getfield 37, 3) := by decide +kernel
theorem dX7_clear_11 : decode cX7_clear 11 = .ok (.invokevirtual 162, 3) := by decide +kernel
theorem dX7_clear_14 : decode cX7_clear 14 = .ok (.aload_n 0, 1) := by decide +kernel
theorem dX7_clear_15 : decode cX7_clear 15 = .ok (.getfield 44, 3) := by decide +kernel
theorem dX7_clear_18 : decode cX7_clear 18 = .ok (.invokevirtual 87, 3) := by decide +kernel
theorem dX7_clear_21 : decode cX7_clear 21 = .ok (.aload_n 0, 1) := by decide +kernel
theorem dX7_clear_22 : decode cX7_clear 22 = .ok (.getfield 48, 3) := by decide +kernel
theorem dX7_clear_25 : decode cX7_clear 25 = .ok (.invokevirtual 87, 3) := by decide +kernel
theorem dX7_clear_28 : decode cX7_clear 28 = .ok (.aload_n 0, 1) := by decide +kernel
theorem dX7_clear_29 : decode cX7_clear 29 = .ok (.getfield 65, 3) := by decide +kernel
theorem dX7_clear_32 : decode cX7_clear 32 = .ok (.invokevirtual 128, 3) := by decide +kernel
theorem dX7_clear_35 : decode cX7_clear 35 = .ok (.return_, 1) := by decide +kernel
abbrev po_c_X7_clear (g : GG) (h0 : Nat) (kd : Int) (w : Int) (sm : Nat) (r : Nat) (wr : Nat) (fd : Nat) (wt : Nat) (rd : Nat) (fl : Int) (rp : Int) (lo : Int) (sa : Nat) (fw : Nat → Int32) (gs0 : Nat) (gt : Nat) (gm : Nat) (cg : Int) (FG : Nat → Int) (gfs : Nat → Int32) (gfi : Nat → Int32) (wb : Nat) (nw : Nat) (wf : Nat → Int32) (wc : Int) (wp : Int) (wu : Int) (fb : Nat) (nf : Nat) (ff : Nat → Int32) (fc : Int) (fp : Int) (fu : Int) (yr : Nat) (ym : Nat) (yd : Nat) (t1 : Nat) (t2 : Nat) (t3 : Nat) (ytd : Nat) (src : Nat) (rs : Nat) (it : Nat) (m : Nat) (c : Int) (F : Nat → Int) (fs : Nat → Int32) (fi : Nat → Int32) (ms : Nat) (mi : Nat) (mm : Nat) (cm : Int) (G : Nat → Int) (gs : Nat → Int32) (gi : Nat → Int32) : Option Value → va_W → Prop := fun v8 w8 => ∃ w2 : Nat → Int32, ∃ g2 : Nat → Int32, ∃ h2 : Nat → Int32, ∃ j2 : Nat → Int32, ∃ s2 : Nat → Int32, ∃ x2 : Nat → Int32, v8 = none ∧ w8 = [(h0, ob 7 [.int (iI kd), .int (iI w), .ref sm, .ref r, .ref wr, .ref fd, .ref wt, .ref rd, .int (iI fl), .int (iI rp), .int (iI lo)]), (sm, ob 4 [.int (iI w), .ref sa]), (sa, aI g (((w + 31) / 32).toNat) w2), (r, ob 2 [.ref gs0, .ref gt, .int (iI 0)]), (gs0, aI g 27 g2), (wr, ob 0 [.ref wb, .int (iI 0), .int (iI 0), .int (iI wu)]), (wb, aB g nw h2), (fd, ob 0 [.ref fb, .int (iI 0), .int (iI 0), .int (iI fu)]), (fb, aB g nf j2), (rd, ob 3 [.int (iI w), .ref yr, .ref ym, .ref yd, .ref t1, .ref t2, .ref t3, .ref ytd, .ref src]), (yr, ob 2 [.ref rs, .ref it, .int (iI 0)]), (rs, aI g 27 s2), (ym, ob 2 [.ref ms, .ref mi, .int (iI 0)]), (ms, aI g 27 x2)] ∧ (LB 0 (fU FG 1 0) g2 gm) ∧ (bF h2) ∧ (bF j2) ∧ (LB 0 (fU F 1 0) s2 m) ∧ (LB 0 (fU G 1 0) x2 mm)
set_option maxHeartbeats 4000000 in
set_option maxRecDepth 100000 in
theorem c_X7_clear (l : Launch) (g : GG) (h0 : Nat) (kd : Int) (w : Int) (sm : Nat) (r : Nat) (wr : Nat) (fd : Nat) (wt : Nat) (rd : Nat) (fl : Int) (rp : Int) (lo : Int) (sa : Nat) (fw : Nat → Int32) (gs0 : Nat) (gt : Nat) (gm : Nat) (cg : Int) (FG : Nat → Int) (gfs : Nat → Int32) (gfi : Nat → Int32) (wb : Nat) (nw : Nat) (wf : Nat → Int32) (wc : Int) (wp : Int) (wu : Int) (fb : Nat) (nf : Nat) (ff : Nat → Int32) (fc : Int) (fp : Int) (fu : Int) (yr : Nat) (ym : Nat) (yd : Nat) (t1 : Nat) (t2 : Nat) (t3 : Nat) (ytd : Nat) (src : Nat) (rs : Nat) (it : Nat) (m : Nat) (c : Int) (F : Nat → Int) (fs : Nat → Int32) (fi : Nat → Int32) (ms : Nat) (mi : Nat) (mm : Nat) (cm : Int) (G : Nat → Int) (gs : Nat → Int32) (gi : Nat → Int32) (hp0 : LB cg FG gfs gm) (hp1 : 0 ≤ wc ∧ wc ≤ 8 * (nw : Int) ∧ 64 ≤ nw ∧ nw ≤ 130000) (hp2 : bF wf) (hp3 : 0 ≤ fc ∧ fc ≤ 8 * (nf : Int) ∧ 64 ≤ nf ∧ nf ≤ 130000) (hp4 : bF ff) (hp5 : LB c F fs m) (hp6 : LB cm G gs mm) (hp7 : 1 ≤ w ∧ w ≤ 3000) : Ct l g yX7_clear (wM yX7_clear cX7_clear 1 none) (rmD 3 0 0) [.ref h0] [(h0, ob 7 [.int (iI kd), .int (iI w), .ref sm, .ref r, .ref wr, .ref fd, .ref wt, .ref rd, .int (iI fl), .int (iI rp), .int (iI lo)]), (sm, ob 4 [.int (iI w), .ref sa]), (sa, aI g (((w + 31) / 32).toNat) fw), (r, ob 2 [.ref gs0, .ref gt, .int (iI cg)]), (gs0, aI g 27 gfs), (wr, ob 0 [.ref wb, .int (iI wc), .int (iI wp), .int (iI wu)]), (wb, aB g nw wf), (fd, ob 0 [.ref fb, .int (iI fc), .int (iI fp), .int (iI fu)]), (fb, aB g nf ff), (rd, ob 3 [.int (iI w), .ref yr, .ref ym, .ref yd, .ref t1, .ref t2, .ref t3, .ref ytd, .ref src]), (yr, ob 2 [.ref rs, .ref it, .int (iI c)]), (rs, aI g 27 fs), (ym, ob 2 [.ref ms, .ref mi, .int (iI cm)]), (ms, aI g 27 gs)] (po_c_X7_clear g h0 kd w sm r wr fd wt rd fl rp lo sa fw gs0 gt gm cg FG gfs gfi wb nw wf wc wp wu fb nf ff fc fp fu yr ym yd t1 t2 t3 ytd src rs it m c F fs fi ms mi mm cm G gs gi) := by
  refine Ct_of (by decide +kernel) (Nat.le_of_ble_eq_true rfl) ?_
  intro p9 e9 s9 m9 ag9 bl9 mt9 c9 A9 fx hr hnm
  refine v_aload_n fx 0 dX7_clear_0 rfl rfl ?_
  refine v_get fx 0 2 inX7 k278 dX7_clear_1 rfl rfl (by decide) rfl rfl rfl ?_
  refine v_callV (As := []) (rest := []) fx [1, 2] [0, 3, 4, 5, 6, 7, 8, 9, 10, 11, 12, 13] [(sm, ob 4 [.int (iI w), .ref sa]), (sa, aI g (((w + 31) / 32).toNat) fw)] [(h0, ob 7 [.int (iI kd), .int (iI w), .ref sm, .ref r, .ref wr, .ref fd, .ref wt, .ref rd, .int (iI fl), .int (iI rp), .int (iI lo)]), (r, ob 2 [.ref gs0, .ref gt, .int (iI cg)]), (gs0, aI g 27 gfs), (wr, ob 0 [.ref wb, .int (iI wc), .int (iI wp), .int (iI wu)]), (wb, aB g nw wf), (fd, ob 0 [.ref fb, .int (iI fc), .int (iI fp), .int (iI fu)]), (fb, aB g nf ff), (rd, ob 3 [.int (iI w), .ref yr, .ref ym, .ref yd, .ref t1, .ref t2, .ref t3, .ref ytd, .ref src]), (yr, ob 2 [.ref rs, .ref it, .int (iI c)]), (rs, aI g 27 fs), (ym, ob 2 [.ref ms, .ref mi, .int (iI cm)]), (ms, aI g 27 gs)] 0 0 (c_X4_whiten l g sm sa (((w + 31) / 32).toNat) fw (iI w) (by first | omega | decide | assumption)) dX7_clear_4 k347 k348 k349 k48 k350 ykX4_whiten rfl rfl rfl rfl rfl rfl rfl rfl (nl rfl) ⟨nl rfl, nl rfl⟩ ⟨(nl rfl), (nl rfl)⟩ rfl (fun v9 w9 hu => ?_)
  obtain ⟨f2_1, rfl, rfl⟩ := hu
  refine v_is (wn := [(h0, ob 7 [.int (iI kd), .int (iI w), .ref sm, .ref r, .ref wr, .ref fd, .ref wt, .ref rd, .int (iI fl), .int (iI rp), .int (iI lo)]), (r, ob 2 [.ref gs0, .ref gt, .int (iI cg)]), (gs0, aI g 27 gfs), (wr, ob 0 [.ref wb, .int (iI wc), .int (iI wp), .int (iI wu)]), (wb, aB g nw wf), (fd, ob 0 [.ref fb, .int (iI fc), .int (iI fp), .int (iI fu)]), (fb, aB g nf ff), (rd, ob 3 [.int (iI w), .ref yr, .ref ym, .ref yd, .ref t1, .ref t2, .ref t3, .ref ytd, .ref src]), (yr, ob 2 [.ref rs, .ref it, .int (iI c)]), (rs, aI g 27 fs), (ym, ob 2 [.ref ms, .ref mi, .int (iI cm)]), (ms, aI g 27 gs), (sm, ob 4 [.int (iI w), .ref sa]), (sa, aI g (((w + 31) / 32).toNat) f2_1)]) (cn := 0) (sn := 0) (sn2 := []) rfl rfl rfl rfl ?_
  refine v_aload_n fx 0 dX7_clear_7 rfl rfl ?_
  refine v_get fx 0 3 inX7 k279 dX7_clear_8 rfl rfl (by decide) rfl rfl rfl ?_
  refine v_callV (As := []) (rest := []) fx [1, 2] [0, 3, 4, 5, 6, 7, 8, 9, 10, 11, 12, 13] [(r, ob 2 [.ref gs0, .ref gt, .int (iI cg)]), (gs0, aI g 27 gfs)] [(h0, ob 7 [.int (iI kd), .int (iI w), .ref sm, .ref r, .ref wr, .ref fd, .ref wt, .ref rd, .int (iI fl), .int (iI rp), .int (iI lo)]), (wr, ob 0 [.ref wb, .int (iI wc), .int (iI wp), .int (iI wu)]), (wb, aB g nw wf), (fd, ob 0 [.ref fb, .int (iI fc), .int (iI fp), .int (iI fu)]), (fb, aB g nf ff), (rd, ob 3 [.int (iI w), .ref yr, .ref ym, .ref yd, .ref t1, .ref t2, .ref t3, .ref ytd, .ref src]), (yr, ob 2 [.ref rs, .ref it, .int (iI c)]), (rs, aI g 27 fs), (ym, ob 2 [.ref ms, .ref mi, .int (iI cm)]), (ms, aI g 27 gs), (sm, ob 4 [.int (iI w), .ref sa]), (sa, aI g (((w + 31) / 32).toNat) f2_1)] 0 0 (c_X2_removeAll l g r gs0 gt gm cg FG gfs gfi (by exact hp0)) dX7_clear_11 k962 k803 k804 k49 k805 ykX2_removeAll rfl rfl rfl rfl rfl rfl rfl rfl (nl rfl) ⟨nl rfl, nl rfl⟩ ⟨(nl rfl), (nl rfl)⟩ rfl (fun v9 w9 hu => ?_)
  obtain ⟨ga, rfl, rfl, u_2⟩ := hu
  refine v_is (wn := [(h0, ob 7 [.int (iI kd), .int (iI w), .ref sm, .ref r, .ref wr, .ref fd, .ref wt, .ref rd, .int (iI fl), .int (iI rp), .int (iI lo)]), (wr, ob 0 [.ref wb, .int (iI wc), .int (iI wp), .int (iI wu)]), (wb, aB g nw wf), (fd, ob 0 [.ref fb, .int (iI fc), .int (iI fp), .int (iI fu)]), (fb, aB g nf ff), (rd, ob 3 [.int (iI w), .ref yr, .ref ym, .ref yd, .ref t1, .ref t2, .ref t3, .ref ytd, .ref src]), (yr, ob 2 [.ref rs, .ref it, .int (iI c)]), (rs, aI g 27 fs), (ym, ob 2 [.ref ms, .ref mi, .int (iI cm)]), (ms, aI g 27 gs), (sm, ob 4 [.int (iI w), .ref sa]), (sa, aI g (((w + 31) / 32).toNat) f2_1), (r, ob 2 [.ref gs0, .ref gt, .int (iI 0)]), (gs0, aI g 27 ga)]) (cn := 0) (sn := 0) (sn2 := []) rfl rfl rfl rfl ?_
  refine v_aload_n fx 0 dX7_clear_14 rfl rfl ?_
  refine v_get fx 0 4 inX7 k280 dX7_clear_15 rfl rfl (by decide) rfl rfl rfl ?_
  refine v_callV (As := []) (rest := []) fx [1, 2] [0, 3, 4, 5, 6, 7, 8, 9, 10, 11, 12, 13] [(wr, ob 0 [.ref wb, .int (iI wc), .int (iI wp), .int (iI wu)]), (wb, aB g nw wf)] [(h0, ob 7 [.int (iI kd), .int (iI w), .ref sm, .ref r, .ref wr, .ref fd, .ref wt, .ref rd, .int (iI fl), .int (iI rp), .int (iI lo)]), (fd, ob 0 [.ref fb, .int (iI fc), .int (iI fp), .int (iI fu)]), (fb, aB g nf ff), (rd, ob 3 [.int (iI w), .ref yr, .ref ym, .ref yd, .ref t1, .ref t2, .ref t3, .ref ytd, .ref src]), (yr, ob 2 [.ref rs, .ref it, .int (iI c)]), (rs, aI g 27 fs), (ym, ob 2 [.ref ms, .ref mi, .int (iI cm)]), (ms, aI g 27 gs), (sm, ob 4 [.int (iI w), .ref sa]), (sa, aI g (((w + 31) / 32).toNat) f2_1), (r, ob 2 [.ref gs0, .ref gt, .int (iI 0)]), (gs0, aI g 27 ga)] 0 0 (c_X0_removeAll l g wr wb nw wf wc wp wu (by first | omega | decide | assumption) (by exact hp2)) dX7_clear_18 k358 k359 k360 k50 k361 ykX0_removeAll rfl rfl rfl rfl rfl rfl rfl rfl (nl rfl) ⟨nl rfl, nl rfl⟩ ⟨(nl rfl), (nl rfl)⟩ rfl (fun v9 w9 hu => ?_)
  obtain ⟨ha, rfl, rfl, u_3⟩ := hu
  refine v_is (wn := [(h0, ob 7 [.int (iI kd), .int (iI w), .ref sm, .ref r, .ref wr, .ref fd, .ref wt, .ref rd, .int (iI fl), .int (iI rp), .int (iI lo)]), (fd, ob 0 [.ref fb, .int (iI fc), .int (iI fp), .int (iI fu)]), (fb, aB g nf ff), (rd, ob 3 [.int (iI w), .ref yr, .ref ym, .ref yd, .ref t1, .ref t2, .ref t3, .ref ytd, .ref src]), (yr, ob 2 [.ref rs, .ref it, .int (iI c)]), (rs, aI g 27 fs), (ym, ob 2 [.ref ms, .ref mi, .int (iI cm)]), (ms, aI g 27 gs), (sm, ob 4 [.int (iI w), .ref sa]), (sa, aI g (((w + 31) / 32).toNat) f2_1), (r, ob 2 [.ref gs0, .ref gt, .int (iI 0)]), (gs0, aI g 27 ga), (wr, ob 0 [.ref wb, .int (iI 0), .int (iI 0), .int (iI wu)]), (wb, aB g nw ha)]) (cn := 0) (sn := 0) (sn2 := []) rfl rfl rfl rfl ?_
  refine v_aload_n fx 0 dX7_clear_21 rfl rfl ?_
  refine v_get fx 0 5 inX7 k281 dX7_clear_22 rfl rfl (by decide) rfl rfl rfl ?_
  refine v_callV (As := []) (rest := []) fx [1, 2] [0, 3, 4, 5, 6, 7, 8, 9, 10, 11, 12, 13] [(fd, ob 0 [.ref fb, .int (iI fc), .int (iI fp), .int (iI fu)]), (fb, aB g nf ff)] [(h0, ob 7 [.int (iI kd), .int (iI w), .ref sm, .ref r, .ref wr, .ref fd, .ref wt, .ref rd, .int (iI fl), .int (iI rp), .int (iI lo)]), (rd, ob 3 [.int (iI w), .ref yr, .ref ym, .ref yd, .ref t1, .ref t2, .ref t3, .ref ytd, .ref src]), (yr, ob 2 [.ref rs, .ref it, .int (iI c)]), (rs, aI g 27 fs), (ym, ob 2 [.ref ms, .ref mi, .int (iI cm)]), (ms, aI g 27 gs), (sm, ob 4 [.int (iI w), .ref sa]), (sa, aI g (((w + 31) / 32).toNat) f2_1), (r, ob 2 [.ref gs0, .ref gt, .int (iI 0)]), (gs0, aI g 27 ga), (wr, ob 0 [.ref wb, .int (iI 0), .int (iI 0), .int (iI wu)]), (wb, aB g nw ha)] 0 0 (c_X0_removeAll l g fd fb nf ff fc fp fu (by first | omega | decide | assumption) (by exact hp4)) dX7_clear_25 k358 k359 k360 k50 k361 ykX0_removeAll rfl rfl rfl rfl rfl rfl rfl rfl (nl rfl) ⟨nl rfl, nl rfl⟩ ⟨(nl rfl), (nl rfl)⟩ rfl (fun v9 w9 hu => ?_)
  obtain ⟨ja, rfl, rfl, u_4⟩ := hu
  refine v_is (wn := [(h0, ob 7 [.int (iI kd), .int (iI w), .ref sm, .ref r, .ref wr, .ref fd, .ref wt, .ref rd, .int (iI fl), .int (iI rp), .int (iI lo)]), (rd, ob 3 [.int (iI w), .ref yr, .ref ym, .ref yd, .ref t1, .ref t2, .ref t3, .ref ytd, .ref src]), (yr, ob 2 [.ref rs, .ref it, .int (iI c)]), (rs, aI g 27 fs), (ym, ob 2 [.ref ms, .ref mi, .int (iI cm)]), (ms, aI g 27 gs), (sm, ob 4 [.int (iI w), .ref sa]), (sa, aI g (((w + 31) / 32).toNat) f2_1), (r, ob 2 [.ref gs0, .ref gt, .int (iI 0)]), (gs0, aI g 27 ga), (wr, ob 0 [.ref wb, .int (iI 0), .int (iI 0), .int (iI wu)]), (wb, aB g nw ha), (fd, ob 0 [.ref fb, .int (iI 0), .int (iI 0), .int (iI fu)]), (fb, aB g nf ja)]) (cn := 0) (sn := 0) (sn2 := []) rfl rfl rfl rfl ?_
  refine v_aload_n fx 0 dX7_clear_28 rfl rfl ?_
  refine v_get fx 0 7 inX7 k283 dX7_clear_29 rfl rfl (by decide) rfl rfl rfl ?_
  refine v_callV (As := []) (rest := []) fx [1, 2, 3, 4, 5] [0, 6, 7, 8, 9, 10, 11, 12, 13] [(rd, ob 3 [.int (iI w), .ref yr, .ref ym, .ref yd, .ref t1, .ref t2, .ref t3, .ref ytd, .ref src]), (yr, ob 2 [.ref rs, .ref it, .int (iI c)]), (rs, aI g 27 fs), (ym, ob 2 [.ref ms, .ref mi, .int (iI cm)]), (ms, aI g 27 gs)] [(h0, ob 7 [.int (iI kd), .int (iI w), .ref sm, .ref r, .ref wr, .ref fd, .ref wt, .ref rd, .int (iI fl), .int (iI rp), .int (iI lo)]), (sm, ob 4 [.int (iI w), .ref sa]), (sa, aI g (((w + 31) / 32).toNat) f2_1), (r, ob 2 [.ref gs0, .ref gt, .int (iI 0)]), (gs0, aI g 27 ga), (wr, ob 0 [.ref wb, .int (iI 0), .int (iI 0), .int (iI wu)]), (wb, aB g nw ha), (fd, ob 0 [.ref fb, .int (iI 0), .int (iI 0), .int (iI fu)]), (fb, aB g nf ja)] 0 0 (c_X3_forget l g rd w yr ym yd t1 t2 t3 ytd src rs it m c F fs fi ms mi mm cm G gs gi (by exact hp5) (by exact hp6)) dX7_clear_32 k912 k799 k800 k53 k801 ykX3_forget rfl rfl rfl rfl rfl rfl rfl rfl (nl rfl) ⟨nl rfl, nl rfl⟩ ⟨(nl rfl), (nl rfl)⟩ rfl (fun v9 w9 hu => ?_)
  obtain ⟨sa2, xa2, rfl, rfl, u_5, u_6⟩ := hu
  refine v_is (wn := [(h0, ob 7 [.int (iI kd), .int (iI w), .ref sm, .ref r, .ref wr, .ref fd, .ref wt, .ref rd, .int (iI fl), .int (iI rp), .int (iI lo)]), (sm, ob 4 [.int (iI w), .ref sa]), (sa, aI g (((w + 31) / 32).toNat) f2_1), (r, ob 2 [.ref gs0, .ref gt, .int (iI 0)]), (gs0, aI g 27 ga), (wr, ob 0 [.ref wb, .int (iI 0), .int (iI 0), .int (iI wu)]), (wb, aB g nw ha), (fd, ob 0 [.ref fb, .int (iI 0), .int (iI 0), .int (iI fu)]), (fb, aB g nf ja), (rd, ob 3 [.int (iI w), .ref yr, .ref ym, .ref yd, .ref t1, .ref t2, .ref t3, .ref ytd, .ref src]), (yr, ob 2 [.ref rs, .ref it, .int (iI 0)]), (rs, aI g 27 sa2), (ym, ob 2 [.ref ms, .ref mi, .int (iI 0)]), (ms, aI g 27 xa2)]) (cn := 0) (sn := 0) (sn2 := []) rfl rfl rfl rfl ?_
  exact v_vret fx [(h0, ob 7 [.int (iI kd), .int (iI w), .ref sm, .ref r, .ref wr, .ref fd, .ref wt, .ref rd, .int (iI fl), .int (iI rp), .int (iI lo)]), (sm, ob 4 [.int (iI w), .ref sa]), (sa, aI g (((w + 31) / 32).toNat) f2_1), (r, ob 2 [.ref gs0, .ref gt, .int (iI 0)]), (gs0, aI g 27 ga), (wr, ob 0 [.ref wb, .int (iI 0), .int (iI 0), .int (iI wu)]), (wb, aB g nw ha), (fd, ob 0 [.ref fb, .int (iI 0), .int (iI 0), .int (iI fu)]), (fb, aB g nf ja), (rd, ob 3 [.int (iI w), .ref yr, .ref ym, .ref yd, .ref t1, .ref t2, .ref t3, .ref ytd, .ref src]), (yr, ob 2 [.ref rs, .ref it, .int (iI 0)]), (rs, aI g 27 sa2), (ym, ob 2 [.ref ms, .ref mi, .int (iI 0)]), (ms, aI g 27 xa2)] [0, 1, 2, 3, 4, 5, 6, 7, 8, 9, 10, 11, 12, 13] hr dX7_clear_35 rfl rfl (nl rfl) (nl rfl) ⟨f2_1, ga, ha, ja, sa2, xa2, rfl, rfl, (by assumption), (by assumption), (by assumption), (by assumption), (by assumption)⟩
theorem dX7_at_0 : decode cX7_at 0 = .ok (.aload_n 0, 1) := by decide +kernel
theorem dX7_at_1 : decode cX7_at 1 = .ok (.getfield 65, 3) := by decide +kernel
theorem dX7_at_4 : decode cX7_at 4 = .ok (.iload_n 2, 1) := by decide +kernel
theorem dX7_at_5 : decode cX7_at 5 = .ok (.invokevirtual 131, 3) := by decide +kernel
theorem dX7_at_8 : decode cX7_at 8 = .ok (.ifCond .ne 5, 3) := by decide +kernel
theorem dX7_at_11 : decode cX7_at 11 = .ok (.iconst 0, 1) := by decide +kernel
theorem dX7_at_12 : decode cX7_at 12 = .ok (.ireturn, 1) := by decide +kernel
theorem dX7_at_13 : decode cX7_at 13 = .ok (.iload_n 1, 1) := by decide +kernel
theorem dX7_at_14 : decode cX7_at 14 = .ok (.ifCond .lt 11, 3) := by decide +kernel
theorem dX7_at_17 : decode cX7_at 17 = .ok (.iload_n 1, 1) := by decide +kernel
theorem dX7_at_18 : decode cX7_at 18 = .ok (.aload_n 0, 1) := by decide +kernel
theorem dX7_at_19 : decode cX7_at 19 = .ok (.getfield 22, 3) := by decide +kernel
theorem dX7_at_22 : decode cX7_at 22 = .ok (.if_icmp .lt 13, 3) := by decide +kernel
theorem dX7_at_25 : decode cX7_at 25 = .ok (.new 135, 3) := by decide +kernel
theorem dX7_at_28 : decode cX7_at 28 = .ok (.dup, 1) := by decide +kernel
theorem dX7_at_29 : decode cX7_at 29 = .ok (.ldc 137, 2) := by decide +kernel
theorem dX7_at_31 : decode cX7_at 31 = .ok (.invokespecial 139, 3) := by decide +kernel
theorem dX7_at_34 : decode cX7_at 34 = .ok (.athrow, 1) := by decide +kernel
theorem dX7_at_35 : decode cX7_at 35 = .ok (.aload_n 0, 1) := by decide +kernel
theorem dX7_at_36 : decode cX7_at 36 = .ok (.getfield 65, 3) := by decide +kernel
theorem dX7_at_39 : decode cX7_at 39 = .ok (.iload_n 1, 1) := by decide +kernel
theorem dX7_at_40 : decode cX7_at 40 = .ok (.iload_n 2, 1) := by decide +kernel
theorem dX7_at_41 : decode cX7_at 41 = .ok (.invokevirtual 142, 3) := by decide +kernel
theorem dX7_at_44 : decode cX7_at 44 = .ok (.ireturn, 1) := by decide +kernel
abbrev po_c_X7_at (g : GG) (h0 : Nat) (kd : Int) (w : Int) (sm : Nat) (r : Nat) (wr : Nat) (fd : Nat) (wt : Nat) (rd : Nat) (fl : Int) (rp : Int) (lo : Int) (yr : Nat) (ym : Nat) (yd : Nat) (t1 : Nat) (t2 : Nat) (t3 : Nat) (ytd : Nat) (src : Nat) (rs : Nat) (it : Nat) (m : Nat) (c : Int) (F : Nat → Int) (fs : Nat → Int32) (fi : Nat → Int32) (x : Int) (y : Int) : Option Value → va_W → Prop := fun v8 w8 => ∃ q : Int, v8 = some (.int (iI q)) ∧ w8 = [(h0, ob 7 [.int (iI kd), .int (iI w), .ref sm, .ref r, .ref wr, .ref fd, .ref wt, .ref rd, .int (iI fl), .int (iI rp), .int (iI lo)]), (rd, ob 3 [.int (iI w), .ref yr, .ref ym, .ref yd, .ref t1, .ref t2, .ref t3, .ref ytd, .ref src]), (yr, ob 2 [.ref rs, .ref it, .int (iI c)]), (rs, aI g 27 fs), (it, aI g m fi)] ∧ (0 ≤ q ∧ q ≤ 1)
set_option maxHeartbeats 4000000 in
set_option maxRecDepth 100000 in
theorem c_X7_at (l : Launch) (g : GG) (h0 : Nat) (kd : Int) (w : Int) (sm : Nat) (r : Nat) (wr : Nat) (fd : Nat) (wt : Nat) (rd : Nat) (fl : Int) (rp : Int) (lo : Int) (yr : Nat) (ym : Nat) (yd : Nat) (t1 : Nat) (t2 : Nat) (t3 : Nat) (ytd : Nat) (src : Nat) (rs : Nat) (it : Nat) (m : Nat) (c : Int) (F : Nat → Int) (fs : Nat → Int32) (fi : Nat → Int32) (x : Int) (y : Int) (hp0 : LB c F fs m) (hp1 : -2147483648 ≤ x ∧ x < 2147483648) (hp2 : -2147483648 ≤ y ∧ y < 2147483648) (hp3 : 1 ≤ w ∧ w ≤ 3000) (hp4 : l.stackTraces = false) : CtX l g yX7_at (wM yX7_at cX7_at 3 (some .boolean)) (rmD 7 1 6) [.ref h0, .int (iI x), .int (iI y)] [(h0, ob 7 [.int (iI kd), .int (iI w), .ref sm, .ref r, .ref wr, .ref fd, .ref wt, .ref rd, .int (iI fl), .int (iI rp), .int (iI lo)]), (rd, ob 3 [.int (iI w), .ref yr, .ref ym, .ref yd, .ref t1, .ref t2, .ref t3, .ref ytd, .ref src]), (yr, ob 2 [.ref rs, .ref it, .int (iI c)]), (rs, aI g 27 fs), (it, aI g m fi)] (po_c_X7_at g h0 kd w sm r wr fd wt rd fl rp lo yr ym yd t1 t2 t3 ytd src rs it m c F fs fi x y) "java/lang/ArrayIndexOutOfBoundsException" := by
  refine CtX_of (by decide +kernel) (Nat.le_of_ble_eq_true rfl) ?_
  intro p9 e9 s9 m9 ag9 bl9 mt9 c9 A9 fx hr hnm htb
  have hc := LB_c hp0
  refine v_aload_n fx 0 dX7_at_0 rfl rfl ?_
  refine v_get fx 0 7 inX7 k283 dX7_at_1 rfl rfl (by decide) rfl rfl rfl ?_
  refine v_iload_n fx 2 dX7_at_4 rfl rfl ?_
  refine v_callV (As := [.int (iI y)]) (rest := []) fx [1, 2] [0, 3, 4] [(rd, ob 3 [.int (iI w), .ref yr, .ref ym, .ref yd, .ref t1, .ref t2, .ref t3, .ref ytd, .ref src]), (yr, ob 2 [.ref rs, .ref it, .int (iI c)])] [(h0, ob 7 [.int (iI kd), .int (iI w), .ref sm, .ref r, .ref wr, .ref fd, .ref wt, .ref rd, .int (iI fl), .int (iI rp), .int (iI lo)]), (rs, aI g 27 fs), (it, aI g m fi)] 1 0 (c_X3_hasRow l g rd w yr ym yd t1 t2 t3 ytd src rs it m c F fs fi y (by first | omega | decide | assumption) (by first | omega | decide | assumption)) dX7_at_5 k974 k975 k976 k53 k977 ykX3_hasRow rfl rfl rfl rfl rfl rfl rfl rfl (nl rfl) ⟨nl rfl, nl rfl⟩ ⟨(nl rfl), (nl rfl)⟩ rfl (fun v9 w9 hu => ?_)
  obtain ⟨q_1, rfl, rfl, u_2⟩ := hu
  refine v_is (wn := [(h0, ob 7 [.int (iI kd), .int (iI w), .ref sm, .ref r, .ref wr, .ref fd, .ref wt, .ref rd, .int (iI fl), .int (iI rp), .int (iI lo)]), (rs, aI g 27 fs), (it, aI g m fi), (rd, ob 3 [.int (iI w), .ref yr, .ref ym, .ref yd, .ref t1, .ref t2, .ref t3, .ref ytd, .ref src]), (yr, ob 2 [.ref rs, .ref it, .int (iI c)])]) (cn := 0) (sn := 0) (sn2 := [.int (iI q_1)]) rfl rfl rfl rfl ?_
  refine v_if_ne fx 13 dX7_at_8 (by decide) rfl (by omega) (fun h_3 => ?_) (fun h_3 => ?_)
  ·
    refine v_iload_n fx 1 dX7_at_13 rfl rfl ?_
    refine v_if_lt fx 25 dX7_at_14 (by decide) rfl (by omega) (fun h_4 => ?_) (fun h_4 => ?_)
    ·
      exact v_throw (ik := 135) (ic := 139) fx ["java/lang/IndexOutOfBoundsException", "java/lang/RuntimeException", "java/lang/Exception"] [(h0, ob 7 [.int (iI kd), .int (iI w), .ref sm, .ref r, .ref wr, .ref fd, .ref wt, .ref rd, .int (iI fl), .int (iI rp), .int (iI lo)]), (rd, ob 3 [.int (iI w), .ref yr, .ref ym, .ref yd, .ref t1, .ref t2, .ref t3, .ref ytd, .ref src]), (yr, ob 2 [.ref rs, .ref it, .int (iI c)]), (rs, aI g 27 fs), (it, aI g m fi)] [0, 3, 4, 1, 2] hp4 (by decide) (by decide) k978 k62 thr_at thr_ot dX7_at_25 dX7_at_28 dX7_at_29 dX7_at_31 dX7_at_34 htb rfl rfl (nl rfl) (nl rfl) (nl rfl) (nl rfl) (nl rfl) (nl rfl)
    ·
      refine v_iload_n fx 1 dX7_at_17 rfl rfl ?_
      refine v_aload_n fx 0 dX7_at_18 rfl rfl ?_
      refine v_get fx 0 1 inX7 k277 dX7_at_19 rfl rfl (by decide) rfl rfl rfl ?_
      refine v_icmp_lt fx 35 dX7_at_22 (by decide) rfl (by omega) (by omega) (fun h_5 => ?_) (fun h_5 => ?_)
      ·
        refine v_aload_n fx 0 dX7_at_35 rfl rfl ?_
        refine v_get fx 0 7 inX7 k283 dX7_at_36 rfl rfl (by decide) rfl rfl rfl ?_
        refine v_iload_n fx 1 dX7_at_39 rfl rfl ?_
        refine v_iload_n fx 2 dX7_at_40 rfl rfl ?_
        refine v_callV (As := [.int (iI x), .int (iI y)]) (rest := []) fx [3, 4, 1, 2] [0] [(rd, ob 3 [.int (iI w), .ref yr, .ref ym, .ref yd, .ref t1, .ref t2, .ref t3, .ref ytd, .ref src]), (yr, ob 2 [.ref rs, .ref it, .int (iI c)]), (rs, aI g 27 fs), (it, aI g m fi)] [(h0, ob 7 [.int (iI kd), .int (iI w), .ref sm, .ref r, .ref wr, .ref fd, .ref wt, .ref rd, .int (iI fl), .int (iI rp), .int (iI lo)])] 2 0 (c_X3_isBlack l g rd w yr ym yd t1 t2 t3 ytd src rs it m c F fs fi x y (by exact hp0) (by first | omega | decide | assumption) (by first | omega | decide | assumption) (by first | omega | decide | assumption)) dX7_at_41 k983 k984 k985 k53 k986 ykX3_isBlack rfl rfl rfl rfl rfl rfl rfl rfl (nl rfl) ⟨nl rfl, nl rfl⟩ ⟨(nl rfl), (nl rfl)⟩ rfl (fun v9 w9 hu => ?_)
        obtain ⟨q_6, rfl, rfl, u_7⟩ := hu
        refine v_is (wn := [(h0, ob 7 [.int (iI kd), .int (iI w), .ref sm, .ref r, .ref wr, .ref fd, .ref wt, .ref rd, .int (iI fl), .int (iI rp), .int (iI lo)]), (rd, ob 3 [.int (iI w), .ref yr, .ref ym, .ref yd, .ref t1, .ref t2, .ref t3, .ref ytd, .ref src]), (yr, ob 2 [.ref rs, .ref it, .int (iI c)]), (rs, aI g 27 fs), (it, aI g m fi)]) (cn := 0) (sn := 0) (sn2 := [.int (iI q_6)]) rfl rfl rfl rfl ?_
        refine v_xret ?_
        exact v_zret fx [(h0, ob 7 [.int (iI kd), .int (iI w), .ref sm, .ref r, .ref wr, .ref fd, .ref wt, .ref rd, .int (iI fl), .int (iI rp), .int (iI lo)]), (rd, ob 3 [.int (iI w), .ref yr, .ref ym, .ref yd, .ref t1, .ref t2, .ref t3, .ref ytd, .ref src]), (yr, ob 2 [.ref rs, .ref it, .int (iI c)]), (rs, aI g 27 fs), (it, aI g m fi)] [0, 1, 2, 3, 4] hr dX7_at_44 (by first | rfl | exact nar_z _ (by omega)) rfl rfl (nl rfl) (nl rfl) ⟨q_6, rfl, rfl, (by first | omega | rfl | assumption)⟩
      ·
        exact v_throw (ik := 135) (ic := 139) fx ["java/lang/IndexOutOfBoundsException", "java/lang/RuntimeException", "java/lang/Exception"] [(h0, ob 7 [.int (iI kd), .int (iI w), .ref sm, .ref r, .ref wr, .ref fd, .ref wt, .ref rd, .int (iI fl), .int (iI rp), .int (iI lo)]), (rd, ob 3 [.int (iI w), .ref yr, .ref ym, .ref yd, .ref t1, .ref t2, .ref t3, .ref ytd, .ref src]), (yr, ob 2 [.ref rs, .ref it, .int (iI c)]), (rs, aI g 27 fs), (it, aI g m fi)] [0, 3, 4, 1, 2] hp4 (by decide) (by decide) k978 k62 thr_at thr_ot dX7_at_25 dX7_at_28 dX7_at_29 dX7_at_31 dX7_at_34 htb rfl rfl (nl rfl) (nl rfl) (nl rfl) (nl rfl) (nl rfl) (nl rfl)
  ·
    refine v_iconst fx dX7_at_11 rfl ?_
    refine v_xret ?_
    exact v_zret fx [(h0, ob 7 [.int (iI kd), .int (iI w), .ref sm, .ref r, .ref wr, .ref fd, .ref wt, .ref rd, .int (iI fl), .int (iI rp), .int (iI lo)]), (rd, ob 3 [.int (iI w), .ref yr, .ref ym, .ref yd, .ref t1, .ref t2, .ref t3, .ref ytd, .ref src]), (yr, ob 2 [.ref rs, .ref it, .int (iI c)]), (rs, aI g 27 fs), (it, aI g m fi)] [0, 3, 4, 1, 2] hr dX7_at_12 (by first | rfl | exact nar_z _ (by omega)) rfl rfl (nl rfl) (nl rfl) ⟨0, rfl, rfl, (by first | omega | rfl | assumption)⟩
