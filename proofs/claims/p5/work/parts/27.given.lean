set_option maxRecDepth 20000 in
theorem gF0 : ((flatC (Jvm.Cond.and given_1 narrow_1)).drop 7).take 91 = (List.range 91).map (fun j => Cond.eq (Term.elem (Term.static "FaxRows" "WHITE_RUNS" "[I") (.int (Int32.ofNat j))) (.int (gT0.getD j 0))) := by decide +kernel
theorem gE0 : ∀ j, j < 91 → Cond.eq (Term.elem (Term.static "FaxRows" "WHITE_RUNS" "[I") (.int (Int32.ofNat j))) (.int (gT0.getD j 0)) ∈ flatC (Jvm.Cond.and given_1 narrow_1) := fun j hj => List.mem_of_mem_drop (List.mem_of_mem_take (by rw [gF0]; exact List.mem_map.mpr ⟨j, List.mem_range.mpr hj, rfl⟩))
set_option maxRecDepth 20000 in
theorem gS0 : Cond.laysStatic "FaxRows" "WHITE_RUNS" "[I" ∈ lw_tbl := (lwt_1 (List.mem_of_getElem? (i := 157) (by decide +kernel)))
set_option maxRecDepth 20000 in
theorem gF1 : ((flatC (Jvm.Cond.and given_1 narrow_1)).drop 117).take 91 = (List.range 91).map (fun j => Cond.eq (Term.elem (Term.static "FaxRows" "BLACK_RUNS" "[I") (.int (Int32.ofNat j))) (.int (gT1.getD j 0))) := by decide +kernel
theorem gE1 : ∀ j, j < 91 → Cond.eq (Term.elem (Term.static "FaxRows" "BLACK_RUNS" "[I") (.int (Int32.ofNat j))) (.int (gT1.getD j 0)) ∈ flatC (Jvm.Cond.and given_1 narrow_1) := fun j hj => List.mem_of_mem_drop (List.mem_of_mem_take (by rw [gF1]; exact List.mem_map.mpr ⟨j, List.mem_range.mpr hj, rfl⟩))
set_option maxRecDepth 20000 in
theorem gS1 : Cond.laysStatic "FaxRows" "BLACK_RUNS" "[I" ∈ lw_tbl := (lwt_1 (List.mem_of_getElem? (i := 198) (by decide +kernel)))
set_option maxRecDepth 20000 in
theorem gF2 : ((flatC (Jvm.Cond.and given_1 narrow_1)).drop 101).take 13 = (List.range 13).map (fun j => Cond.eq (Term.elem (Term.static "FaxRows" "LONG_RUNS" "[I") (.int (Int32.ofNat j))) (.int (gT2.getD j 0))) := by decide +kernel
theorem gE2 : ∀ j, j < 13 → Cond.eq (Term.elem (Term.static "FaxRows" "LONG_RUNS" "[I") (.int (Int32.ofNat j))) (.int (gT2.getD j 0)) ∈ flatC (Jvm.Cond.and given_1 narrow_1) := fun j hj => List.mem_of_mem_drop (List.mem_of_mem_take (by rw [gF2]; exact List.mem_map.mpr ⟨j, List.mem_range.mpr hj, rfl⟩))
set_option maxRecDepth 20000 in
theorem gS2 : Cond.laysStatic "FaxRows" "LONG_RUNS" "[I" ∈ lw_tbl := (lwt_1 (List.mem_of_getElem? (i := 196) (by decide +kernel)))
set_option maxRecDepth 20000 in
theorem gF3 : ((flatC (Jvm.Cond.and given_1 narrow_1)).drop 211).take 10 = (List.range 10).map (fun j => Cond.eq (Term.elem (Term.static "FaxRows" "MODES" "[I") (.int (Int32.ofNat j))) (.int (gT3.getD j 0))) := by decide +kernel
theorem gE3 : ∀ j, j < 10 → Cond.eq (Term.elem (Term.static "FaxRows" "MODES" "[I") (.int (Int32.ofNat j))) (.int (gT3.getD j 0)) ∈ flatC (Jvm.Cond.and given_1 narrow_1) := fun j hj => List.mem_of_mem_drop (List.mem_of_mem_take (by rw [gF3]; exact List.mem_map.mpr ⟨j, List.mem_range.mpr hj, rfl⟩))
set_option maxRecDepth 20000 in
theorem gS3 : Cond.laysStatic "FaxRows" "MODES" "[I" ∈ lw_tbl := (lwt_1 (List.mem_of_getElem? (i := 200) (by decide +kernel)))
set_option maxRecDepth 20000 in
theorem thU : Cond.laysStatic "java/lang/Throwable" "UNASSIGNED_STACK" "[Ljava/lang/StackTraceElement;" ∈ lw_tbl := (lwt_2 (List.mem_of_getElem? (i := 116) (by decide +kernel)))
set_option maxRecDepth 20000 in
theorem thUr : Cond.isRef (Term.static "java/lang/Throwable" "UNASSIGNED_STACK" "[Ljava/lang/StackTraceElement;") ∈ flatC (Jvm.Cond.and given_1 narrow_1) := by decide +kernel
set_option maxRecDepth 20000 in
theorem thS : Cond.laysStatic "java/lang/Throwable" "SUPPRESSED_SENTINEL" "Ljava/util/List;" ∈ lw_tbl := (lwt_2 (List.mem_of_getElem? (i := 118) (by decide +kernel)))
set_option maxRecDepth 20000 in
theorem thSr : Cond.isRef (Term.static "java/lang/Throwable" "SUPPRESSED_SENTINEL" "Ljava/util/List;") ∈ flatC (Jvm.Cond.and given_1 narrow_1) := by decide +kernel
set_option maxRecDepth 20000 in
theorem thI : Cond.initialized "java/lang/Throwable" ∈ lw_tbl := (lwt_1 (List.mem_of_getElem? (i := 13) (by decide +kernel)))
set_option maxRecDepth 20000 in
theorem thT : Cond.stringRef "FaxRows" 137 "the row has no such sample" ∈ lw_tbl := (lwt_4 (List.mem_of_getElem? (i := 214) (by decide +kernel)))
set_option maxRecDepth 20000 in
theorem thE : Cond.exactly (Term.string "FaxRows" 137) "java/lang/String" ∈ flatC (Jvm.Cond.and given_1 narrow_1) := by decide +kernel
