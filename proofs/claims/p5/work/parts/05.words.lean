/-! WORDS by their places in the tables -/
theorem lwt_0 {w : Cond} (h : w ∈ k2_sels lw_privs) : w ∈ lw_tbl := List.mem_append_left _ h
theorem lwt_t {w : Cond} (h : w ∈ tables_1) : w ∈ lw_tbl := List.mem_append_right _ h
theorem lwt_1 {w : Cond} (h : w ∈ tables_1_1) : w ∈ lw_tbl := lwt_t (List.mem_append_left _ h)
theorem lwt_2 {w : Cond} (h : w ∈ tables_1_2) : w ∈ lw_tbl := lwt_t (List.mem_append_right _ (List.mem_append_left _ h))
theorem lwt_3 {w : Cond} (h : w ∈ tables_1_3) : w ∈ lw_tbl := lwt_t (List.mem_append_right _ (List.mem_append_right _ (List.mem_append_left _ h)))
theorem lwt_4 {w : Cond} (h : w ∈ tables_1_4) : w ∈ lw_tbl := lwt_t (List.mem_append_right _ (List.mem_append_right _ (List.mem_append_right _ (List.mem_append_left _ h))))
theorem lwt_5 {w : Cond} (h : w ∈ tables_1_5) : w ∈ lw_tbl := lwt_t (List.mem_append_right _ (List.mem_append_right _ (List.mem_append_right _ (List.mem_append_right _ (List.mem_append_left _ h)))))
theorem lwt_6 {w : Cond} (h : w ∈ tables_1_6) : w ∈ lw_tbl := lwt_t (List.mem_append_right _ (List.mem_append_right _ (List.mem_append_right _ (List.mem_append_right _ (List.mem_append_right _ (h))))))
theorem wk {w : Cond} (h : w ∈ lw_tbl) (hg : goodWord w = true) : w ∈ wT := List.mem_filter.mpr ⟨h, hg⟩
theorem wnk {w : Cond} (h : w ∈ lw_tbl) (hg : isNest w = true) : w ∈ wN := List.mem_filter.mpr ⟨h, hg⟩
set_option maxRecDepth 20000 in
theorem k0 : (Jvm.Cond.selects "FaxRows$CodeTree" ({ cls := "FaxRows$CodeTree", name := "add", desc := "(II)V" } : Jvm.MethodName) ({ cls := "FaxRows$CodeTree", name := "add", desc := "(II)V" } : Jvm.MethodName)) ∈ wT := wk (lwt_0 (List.mem_of_getElem? (i := 0) (by decide +kernel))) rfl
set_option maxRecDepth 20000 in
theorem k1 : (Jvm.Cond.selects "FaxRows$CodeTree" ({ cls := "FaxRows$CodeTree", name := "nodeBelow", desc := "(IZ)I" } : Jvm.MethodName) ({ cls := "FaxRows$CodeTree", name := "nodeBelow", desc := "(IZ)I" } : Jvm.MethodName)) ∈ wT := wk (lwt_0 (List.mem_of_getElem? (i := 1) (by decide +kernel))) rfl
set_option maxRecDepth 20000 in
theorem k2 : (Jvm.Cond.selects "FaxRows$CodeTree" ({ cls := "FaxRows$CodeTree", name := "branch", desc := "(IZ)I" } : Jvm.MethodName) ({ cls := "FaxRows$CodeTree", name := "branch", desc := "(IZ)I" } : Jvm.MethodName)) ∈ wT := wk (lwt_0 (List.mem_of_getElem? (i := 2) (by decide +kernel))) rfl
set_option maxRecDepth 20000 in
theorem k3 : (Jvm.Cond.selects "FaxRows$CodeTree" ({ cls := "FaxRows$CodeTree", name := "setBranch", desc := "(IZI)V" } : Jvm.MethodName) ({ cls := "FaxRows$CodeTree", name := "setBranch", desc := "(IZI)V" } : Jvm.MethodName)) ∈ wT := wk (lwt_0 (List.mem_of_getElem? (i := 3) (by decide +kernel))) rfl
set_option maxRecDepth 20000 in
theorem k4 : (Jvm.Cond.selects "FaxRows$Samples" ({ cls := "FaxRows$Samples", name := "addPlaces", desc := "(IILFaxRows$Lists;)V" } : Jvm.MethodName) ({ cls := "FaxRows$Samples", name := "addPlaces", desc := "(IILFaxRows$Lists;)V" } : Jvm.MethodName)) ∈ wT := wk (lwt_0 (List.mem_of_getElem? (i := 4) (by decide +kernel))) rfl
set_option maxRecDepth 20000 in
theorem k6 : (Jvm.Cond.selects "FaxRows$Writer" ({ cls := "FaxRows$Writer", name := "writeModes", desc := "(I)V" } : Jvm.MethodName) ({ cls := "FaxRows$Writer", name := "writeModes", desc := "(I)V" } : Jvm.MethodName)) ∈ wT := wk (lwt_0 (List.mem_of_getElem? (i := 6) (by decide +kernel))) rfl
set_option maxRecDepth 20000 in
theorem k7 : (Jvm.Cond.selects "FaxRows$Told" ({ cls := "FaxRows$Told", name := "numberOfB1", desc := "()I" } : Jvm.MethodName) ({ cls := "FaxRows$Told", name := "numberOfB1", desc := "()I" } : Jvm.MethodName)) ∈ wT := wk (lwt_0 (List.mem_of_getElem? (i := 7) (by decide +kernel))) rfl
set_option maxRecDepth 20000 in
theorem k8 : (Jvm.Cond.selects "FaxRows$Bits" ({ cls := "FaxRows$Bits", name := "makeRoomFor", desc := "(I)V" } : Jvm.MethodName) ({ cls := "FaxRows$Bits", name := "makeRoomFor", desc := "(I)V" } : Jvm.MethodName)) ∈ wT := wk (lwt_0 (List.mem_of_getElem? (i := 8) (by decide +kernel))) rfl
set_option maxRecDepth 20000 in
theorem k9 : (Jvm.Cond.selects "FaxRows$Writer" ({ cls := "FaxRows$Writer", name := "writeRun", desc := "(IZ)V" } : Jvm.MethodName) ({ cls := "FaxRows$Writer", name := "writeRun", desc := "(IZ)V" } : Jvm.MethodName)) ∈ wT := wk (lwt_0 (List.mem_of_getElem? (i := 9) (by decide +kernel))) rfl
set_option maxRecDepth 20000 in
theorem k10 : (Jvm.Cond.selects "FaxRows$Writer" ({ cls := "FaxRows$Writer", name := "runCode", desc := "(IZ)I" } : Jvm.MethodName) ({ cls := "FaxRows$Writer", name := "runCode", desc := "(IZ)I" } : Jvm.MethodName)) ∈ wT := wk (lwt_0 (List.mem_of_getElem? (i := 10) (by decide +kernel))) rfl
set_option maxRecDepth 20000 in
theorem k11 : (Jvm.Cond.selects "FaxRows$Writer" ({ cls := "FaxRows$Writer", name := "writeMark", desc := "(ZZ)V" } : Jvm.MethodName) ({ cls := "FaxRows$Writer", name := "writeMark", desc := "(ZZ)V" } : Jvm.MethodName)) ∈ wT := wk (lwt_0 (List.mem_of_getElem? (i := 11) (by decide +kernel))) rfl
set_option maxRecDepth 20000 in
theorem k12 : (Jvm.Cond.selects "FaxRows$Writer" ({ cls := "FaxRows$Writer", name := "writeRuns", desc := "(I)V" } : Jvm.MethodName) ({ cls := "FaxRows$Writer", name := "writeRuns", desc := "(I)V" } : Jvm.MethodName)) ∈ wT := wk (lwt_0 (List.mem_of_getElem? (i := 12) (by decide +kernel))) rfl
set_option maxRecDepth 20000 in
theorem k13 : (Jvm.Cond.selects "FaxRows$Reader" ({ cls := "FaxRows$Reader", name := "readModes", desc := "()I" } : Jvm.MethodName) ({ cls := "FaxRows$Reader", name := "readModes", desc := "()I" } : Jvm.MethodName)) ∈ wT := wk (lwt_0 (List.mem_of_getElem? (i := 13) (by decide +kernel))) rfl
set_option maxRecDepth 20000 in
theorem k14 : (Jvm.Cond.selects "FaxRows$Reader" ({ cls := "FaxRows$Reader", name := "readHorizontal", desc := "()Z" } : Jvm.MethodName) ({ cls := "FaxRows$Reader", name := "readHorizontal", desc := "()Z" } : Jvm.MethodName)) ∈ wT := wk (lwt_0 (List.mem_of_getElem? (i := 14) (by decide +kernel))) rfl
set_option maxRecDepth 20000 in
theorem k15 : (Jvm.Cond.selects "FaxRows$Reader" ({ cls := "FaxRows$Reader", name := "readRun", desc := "(Z)I" } : Jvm.MethodName) ({ cls := "FaxRows$Reader", name := "readRun", desc := "(Z)I" } : Jvm.MethodName)) ∈ wT := wk (lwt_0 (List.mem_of_getElem? (i := 15) (by decide +kernel))) rfl
set_option maxRecDepth 20000 in
theorem k16 : (Jvm.Cond.selects "FaxRows$Reader" ({ cls := "FaxRows$Reader", name := "turnAt", desc := "(I)V" } : Jvm.MethodName) ({ cls := "FaxRows$Reader", name := "turnAt", desc := "(I)V" } : Jvm.MethodName)) ∈ wT := wk (lwt_0 (List.mem_of_getElem? (i := 16) (by decide +kernel))) rfl
set_option maxRecDepth 20000 in
theorem k17 : (Jvm.Cond.selects "FaxRows$Reader" ({ cls := "FaxRows$Reader", name := "turnBesideB1", desc := "(I)Z" } : Jvm.MethodName) ({ cls := "FaxRows$Reader", name := "turnBesideB1", desc := "(I)Z" } : Jvm.MethodName)) ∈ wT := wk (lwt_0 (List.mem_of_getElem? (i := 17) (by decide +kernel))) rfl
set_option maxRecDepth 20000 in
theorem k18 : (Jvm.Cond.selects "FaxRows$Reader" ({ cls := "FaxRows$Reader", name := "closeRow", desc := "(ZZ)V" } : Jvm.MethodName) ({ cls := "FaxRows$Reader", name := "closeRow", desc := "(ZZ)V" } : Jvm.MethodName)) ∈ wT := wk (lwt_0 (List.mem_of_getElem? (i := 18) (by decide +kernel))) rfl
set_option maxRecDepth 20000 in
theorem k19 : (Jvm.Cond.selects "FaxRows$Bits" ({ cls := "FaxRows$Bits", name := "zerosAhead", desc := "(I)I" } : Jvm.MethodName) ({ cls := "FaxRows$Bits", name := "zerosAhead", desc := "(I)I" } : Jvm.MethodName)) ∈ wT := wk (lwt_0 (List.mem_of_getElem? (i := 19) (by decide +kernel))) rfl
set_option maxRecDepth 20000 in
theorem k20 : (Jvm.Cond.selects "FaxRows$Reader" ({ cls := "FaxRows$Reader", name := "readRuns", desc := "()I" } : Jvm.MethodName) ({ cls := "FaxRows$Reader", name := "readRuns", desc := "()I" } : Jvm.MethodName)) ∈ wT := wk (lwt_0 (List.mem_of_getElem? (i := 20) (by decide +kernel))) rfl
set_option maxRecDepth 20000 in
theorem k21 : (Jvm.Cond.selects "FaxRowsModel" ({ cls := "FaxRowsModel", name := "mark", desc := "()V" } : Jvm.MethodName) ({ cls := "FaxRowsModel", name := "mark", desc := "()V" } : Jvm.MethodName)) ∈ wT := wk (lwt_0 (List.mem_of_getElem? (i := 21) (by decide +kernel))) rfl
set_option maxRecDepth 20000 in
theorem k22 : (Jvm.Cond.selects "FaxRowsModel" ({ cls := "FaxRowsModel", name := "number", desc := "(II)V" } : Jvm.MethodName) ({ cls := "FaxRowsModel", name := "number", desc := "(II)V" } : Jvm.MethodName)) ∈ wT := wk (lwt_0 (List.mem_of_getElem? (i := 22) (by decide +kernel))) rfl
set_option maxRecDepth 20000 in
theorem k23 : (Jvm.Cond.selects "FaxRowsModel" ({ cls := "FaxRowsModel", name := "bit", desc := "(I)V" } : Jvm.MethodName) ({ cls := "FaxRowsModel", name := "bit", desc := "(I)V" } : Jvm.MethodName)) ∈ wT := wk (lwt_0 (List.mem_of_getElem? (i := 23) (by decide +kernel))) rfl
set_option maxRecDepth 20000 in
theorem k24 : (Jvm.Cond.selects "FaxRowsModel" ({ cls := "FaxRowsModel", name := "oneDimension", desc := "(I)V" } : Jvm.MethodName) ({ cls := "FaxRowsModel", name := "oneDimension", desc := "(I)V" } : Jvm.MethodName)) ∈ wT := wk (lwt_0 (List.mem_of_getElem? (i := 24) (by decide +kernel))) rfl
set_option maxRecDepth 20000 in
theorem k25 : (Jvm.Cond.selects "FaxRowsModel" ({ cls := "FaxRowsModel", name := "run", desc := "(IZ)V" } : Jvm.MethodName) ({ cls := "FaxRowsModel", name := "run", desc := "(IZ)V" } : Jvm.MethodName)) ∈ wT := wk (lwt_0 (List.mem_of_getElem? (i := 25) (by decide +kernel))) rfl
set_option maxRecDepth 20000 in
theorem k26 : (Jvm.Cond.selects "FaxRowsModel" ({ cls := "FaxRowsModel", name := "write", desc := "(I)V" } : Jvm.MethodName) ({ cls := "FaxRowsModel", name := "write", desc := "(I)V" } : Jvm.MethodName)) ∈ wT := wk (lwt_0 (List.mem_of_getElem? (i := 26) (by decide +kernel))) rfl
set_option maxRecDepth 20000 in
theorem k27 : (Jvm.Cond.selects "FaxRowsModel" ({ cls := "FaxRowsModel", name := "twoDimensions", desc := "(II)V" } : Jvm.MethodName) ({ cls := "FaxRowsModel", name := "twoDimensions", desc := "(II)V" } : Jvm.MethodName)) ∈ wT := wk (lwt_0 (List.mem_of_getElem? (i := 27) (by decide +kernel))) rfl
set_option maxRecDepth 20000 in
theorem k28 : (Jvm.Cond.selects "FaxRowsModel" ({ cls := "FaxRowsModel", name := "change", desc := "([ZII)I" } : Jvm.MethodName) ({ cls := "FaxRowsModel", name := "change", desc := "([ZII)I" } : Jvm.MethodName)) ∈ wT := wk (lwt_0 (List.mem_of_getElem? (i := 28) (by decide +kernel))) rfl
set_option maxRecDepth 20000 in
theorem k29 : (Jvm.Cond.selects "FaxRowsModel" ({ cls := "FaxRowsModel", name := "b1", desc := "([ZIIZ)I" } : Jvm.MethodName) ({ cls := "FaxRowsModel", name := "b1", desc := "([ZIIZ)I" } : Jvm.MethodName)) ∈ wT := wk (lwt_0 (List.mem_of_getElem? (i := 29) (by decide +kernel))) rfl
set_option maxRecDepth 20000 in
theorem k30 : (Jvm.Cond.selects "FaxRowsModel" ({ cls := "FaxRowsModel", name := "b2", desc := "([ZII)I" } : Jvm.MethodName) ({ cls := "FaxRowsModel", name := "b2", desc := "([ZII)I" } : Jvm.MethodName)) ∈ wT := wk (lwt_0 (List.mem_of_getElem? (i := 30) (by decide +kernel))) rfl
set_option maxRecDepth 20000 in
theorem k31 : (Jvm.Cond.selects "FaxRowsModel" ({ cls := "FaxRowsModel", name := "vertical", desc := "(I)V" } : Jvm.MethodName) ({ cls := "FaxRowsModel", name := "vertical", desc := "(I)V" } : Jvm.MethodName)) ∈ wT := wk (lwt_0 (List.mem_of_getElem? (i := 31) (by decide +kernel))) rfl
set_option maxRecDepth 20000 in
theorem k32 : (Jvm.Cond.selects "FaxRowsModel" ({ cls := "FaxRowsModel", name := "readUnmarked", desc := "()I" } : Jvm.MethodName) ({ cls := "FaxRowsModel", name := "readUnmarked", desc := "()I" } : Jvm.MethodName)) ∈ wT := wk (lwt_0 (List.mem_of_getElem? (i := 32) (by decide +kernel))) rfl
set_option maxRecDepth 20000 in
theorem k33 : (Jvm.Cond.selects "FaxRowsModel" ({ cls := "FaxRowsModel", name := "isEnd", desc := "()Z" } : Jvm.MethodName) ({ cls := "FaxRowsModel", name := "isEnd", desc := "()Z" } : Jvm.MethodName)) ∈ wT := wk (lwt_0 (List.mem_of_getElem? (i := 33) (by decide +kernel))) rfl
set_option maxRecDepth 20000 in
theorem k34 : (Jvm.Cond.selects "FaxRowsModel" ({ cls := "FaxRowsModel", name := "bitAt", desc := "(I)I" } : Jvm.MethodName) ({ cls := "FaxRowsModel", name := "bitAt", desc := "(I)I" } : Jvm.MethodName)) ∈ wT := wk (lwt_0 (List.mem_of_getElem? (i := 34) (by decide +kernel))) rfl
set_option maxRecDepth 20000 in
theorem k35 : (Jvm.Cond.selects "FaxRowsModel" ({ cls := "FaxRowsModel", name := "readRow", desc := "(IZ)V" } : Jvm.MethodName) ({ cls := "FaxRowsModel", name := "readRow", desc := "(IZ)V" } : Jvm.MethodName)) ∈ wT := wk (lwt_0 (List.mem_of_getElem? (i := 35) (by decide +kernel))) rfl
set_option maxRecDepth 20000 in
theorem k36 : (Jvm.Cond.selects "FaxRowsModel" ({ cls := "FaxRowsModel", name := "paint", desc := "(IIIZ)V" } : Jvm.MethodName) ({ cls := "FaxRowsModel", name := "paint", desc := "(IIIZ)V" } : Jvm.MethodName)) ∈ wT := wk (lwt_0 (List.mem_of_getElem? (i := 36) (by decide +kernel))) rfl
set_option maxRecDepth 20000 in
theorem k37 : (Jvm.Cond.selects "FaxRowsModel" ({ cls := "FaxRowsModel", name := "readOne", desc := "(I)V" } : Jvm.MethodName) ({ cls := "FaxRowsModel", name := "readOne", desc := "(I)V" } : Jvm.MethodName)) ∈ wT := wk (lwt_0 (List.mem_of_getElem? (i := 37) (by decide +kernel))) rfl
set_option maxRecDepth 20000 in
theorem k38 : (Jvm.Cond.selects "FaxRowsModel" ({ cls := "FaxRowsModel", name := "readRun", desc := "(ZI)I" } : Jvm.MethodName) ({ cls := "FaxRowsModel", name := "readRun", desc := "(ZI)I" } : Jvm.MethodName)) ∈ wT := wk (lwt_0 (List.mem_of_getElem? (i := 38) (by decide +kernel))) rfl
set_option maxRecDepth 20000 in
theorem k39 : (Jvm.Cond.selects "FaxRowsModel" ({ cls := "FaxRowsModel", name := "runCode", desc := "(Z)I" } : Jvm.MethodName) ({ cls := "FaxRowsModel", name := "runCode", desc := "(Z)I" } : Jvm.MethodName)) ∈ wT := wk (lwt_0 (List.mem_of_getElem? (i := 39) (by decide +kernel))) rfl
set_option maxRecDepth 20000 in
theorem k40 : (Jvm.Cond.selects "FaxRowsModel" ({ cls := "FaxRowsModel", name := "readTwo", desc := "(III)V" } : Jvm.MethodName) ({ cls := "FaxRowsModel", name := "readTwo", desc := "(III)V" } : Jvm.MethodName)) ∈ wT := wk (lwt_0 (List.mem_of_getElem? (i := 40) (by decide +kernel))) rfl
set_option maxRecDepth 20000 in
theorem k41 : (Jvm.Cond.selects "FaxRowsModel" ({ cls := "FaxRowsModel", name := "readMode", desc := "()I" } : Jvm.MethodName) ({ cls := "FaxRowsModel", name := "readMode", desc := "()I" } : Jvm.MethodName)) ∈ wT := wk (lwt_0 (List.mem_of_getElem? (i := 41) (by decide +kernel))) rfl
set_option maxRecDepth 20000 in
theorem k42 : (Jvm.Cond.selects "FaxRowsModel" ({ cls := "FaxRowsModel", name := "readMarked", desc := "()I" } : Jvm.MethodName) ({ cls := "FaxRowsModel", name := "readMarked", desc := "()I" } : Jvm.MethodName)) ∈ wT := wk (lwt_0 (List.mem_of_getElem? (i := 42) (by decide +kernel))) rfl
set_option maxRecDepth 20000 in
theorem k43 : (Jvm.Cond.selects "FaxRowsModel" ({ cls := "FaxRowsModel", name := "findMark", desc := "(I)I" } : Jvm.MethodName) ({ cls := "FaxRowsModel", name := "findMark", desc := "(I)I" } : Jvm.MethodName)) ∈ wT := wk (lwt_0 (List.mem_of_getElem? (i := 43) (by decide +kernel))) rfl
set_option maxRecDepth 20000 in
theorem k44 : (Jvm.Cond.selects "FaxRowsModel" ({ cls := "FaxRowsModel", name := "behindMark", desc := "(I)I" } : Jvm.MethodName) ({ cls := "FaxRowsModel", name := "behindMark", desc := "(I)I" } : Jvm.MethodName)) ∈ wT := wk (lwt_0 (List.mem_of_getElem? (i := 44) (by decide +kernel))) rfl
set_option maxRecDepth 20000 in
theorem k45 : (Jvm.Cond.initialized "FaxRowsLaw") ∈ wT := wk (lwt_1 (List.mem_of_getElem? (i := 0) (by decide +kernel))) rfl
set_option maxRecDepth 20000 in
theorem k46 : (Jvm.Cond.initialized "FaxRows") ∈ wT := wk (lwt_1 (List.mem_of_getElem? (i := 1) (by decide +kernel))) rfl
set_option maxRecDepth 20000 in
theorem k47 : (Jvm.Cond.initialized "java/lang/Math") ∈ wT := wk (lwt_1 (List.mem_of_getElem? (i := 2) (by decide +kernel))) rfl
set_option maxRecDepth 20000 in
theorem k48 : (Jvm.Cond.initialized "FaxRows$Samples") ∈ wT := wk (lwt_1 (List.mem_of_getElem? (i := 3) (by decide +kernel))) rfl
set_option maxRecDepth 20000 in
theorem k49 : (Jvm.Cond.initialized "FaxRows$Lists") ∈ wT := wk (lwt_1 (List.mem_of_getElem? (i := 4) (by decide +kernel))) rfl
set_option maxRecDepth 20000 in
theorem k50 : (Jvm.Cond.initialized "FaxRows$Bits") ∈ wT := wk (lwt_1 (List.mem_of_getElem? (i := 5) (by decide +kernel))) rfl
set_option maxRecDepth 20000 in
theorem k51 : (Jvm.Cond.initialized "FaxRows$Writer") ∈ wT := wk (lwt_1 (List.mem_of_getElem? (i := 6) (by decide +kernel))) rfl
set_option maxRecDepth 20000 in
theorem k52 : (Jvm.Cond.initialized "FaxRows$Told") ∈ wT := wk (lwt_1 (List.mem_of_getElem? (i := 7) (by decide +kernel))) rfl
set_option maxRecDepth 20000 in
theorem k53 : (Jvm.Cond.initialized "FaxRows$Reader") ∈ wT := wk (lwt_1 (List.mem_of_getElem? (i := 8) (by decide +kernel))) rfl
set_option maxRecDepth 20000 in
theorem k54 : (Jvm.Cond.initialized "FaxRows$CodeTree") ∈ wT := wk (lwt_1 (List.mem_of_getElem? (i := 9) (by decide +kernel))) rfl
set_option maxRecDepth 20000 in
theorem k55 : (Jvm.Cond.initialized "java/util/Arrays") ∈ wT := wk (lwt_1 (List.mem_of_getElem? (i := 10) (by decide +kernel))) rfl
set_option maxRecDepth 20000 in
theorem k56 : (Jvm.Cond.initialized "java/lang/System") ∈ wT := wk (lwt_1 (List.mem_of_getElem? (i := 11) (by decide +kernel))) rfl
set_option maxRecDepth 20000 in
theorem k57 : (Jvm.Cond.initialized "FaxRowsModel") ∈ wT := wk (lwt_1 (List.mem_of_getElem? (i := 12) (by decide +kernel))) rfl
set_option maxRecDepth 20000 in
theorem k71 : (Jvm.Cond.classLink "FaxRowsLaw" (8 : Nat) "FaxRows") ∈ wT := wk (lwt_1 (List.mem_of_getElem? (i := 26) (by decide +kernel))) rfl
set_option maxRecDepth 20000 in
theorem k72 : (Jvm.Cond.instantiable "FaxRows" (11 : Nat)) ∈ wT := wk (lwt_1 (List.mem_of_getElem? (i := 27) (by decide +kernel))) rfl
set_option maxRecDepth 20000 in
theorem k73 : (Jvm.Cond.methodLink "FaxRowsLaw" (21 : Nat) ({ cls := "FaxRows", name := "<init>", desc := "(II)V" } : Jvm.MethodName)) ∈ wT := wk (lwt_1 (List.mem_of_getElem? (i := 28) (by decide +kernel))) rfl
set_option maxRecDepth 20000 in
theorem k74 : (Jvm.Cond.instanceMethod ({ cls := "FaxRows", name := "<init>", desc := "(II)V" } : Jvm.MethodName)) ∈ wT := wk (lwt_1 (List.mem_of_getElem? (i := 29) (by decide +kernel))) rfl
set_option maxRecDepth 20000 in
theorem k75 : (Jvm.Cond.code ({ cls := "FaxRows", name := "<init>", desc := "(II)V" } : Jvm.MethodName) prog_1_method_1_code (3 : Nat) (Option.none : Option Jvm.ClassFile.FieldType)) ∈ wT := wk (lwt_1 (List.mem_of_getElem? (i := 30) rfl)) rfl
set_option maxRecDepth 20000 in
theorem k76 : (Jvm.Cond.methodLink "FaxRows" (1 : Nat) ({ cls := "java/lang/Object", name := "<init>", desc := "()V" } : Jvm.MethodName)) ∈ wT := wk (lwt_1 (List.mem_of_getElem? (i := 31) (by decide +kernel))) rfl
set_option maxRecDepth 20000 in
theorem k77 : (Jvm.Cond.instanceMethod ({ cls := "java/lang/Object", name := "<init>", desc := "()V" } : Jvm.MethodName)) ∈ wT := wk (lwt_1 (List.mem_of_getElem? (i := 32) (by decide +kernel))) rfl
set_option maxRecDepth 20000 in
theorem k78 : (Jvm.Cond.code ({ cls := "java/lang/Object", name := "<init>", desc := "()V" } : Jvm.MethodName) object_method_1_code (1 : Nat) (Option.none : Option Jvm.ClassFile.FieldType)) ∈ wT := wk (lwt_1 (List.mem_of_getElem? (i := 33) rfl)) rfl
set_option maxRecDepth 20000 in
theorem k79 : (Jvm.Cond.methodLink "FaxRows" (9 : Nat) ({ cls := "java/lang/Math", name := "min", desc := "(II)I" } : Jvm.MethodName)) ∈ wT := wk (lwt_1 (List.mem_of_getElem? (i := 34) (by decide +kernel))) rfl
set_option maxRecDepth 20000 in
theorem k80 : (Jvm.Cond.static ({ cls := "java/lang/Math", name := "min", desc := "(II)I" } : Jvm.MethodName)) ∈ wT := wk (lwt_1 (List.mem_of_getElem? (i := 35) (by decide +kernel))) rfl
set_option maxRecDepth 20000 in
theorem k81 : (Jvm.Cond.code ({ cls := "java/lang/Math", name := "min", desc := "(II)I" } : Jvm.MethodName) prog_17_method_69_code (2 : Nat) (Option.some Jvm.ClassFile.FieldType.int)) ∈ wT := wk (lwt_1 (List.mem_of_getElem? (i := 36) rfl)) rfl
set_option maxRecDepth 20000 in
theorem k82 : (Jvm.Cond.methodLink "FaxRows" (15 : Nat) ({ cls := "java/lang/Math", name := "max", desc := "(II)I" } : Jvm.MethodName)) ∈ wT := wk (lwt_1 (List.mem_of_getElem? (i := 37) (by decide +kernel))) rfl
set_option maxRecDepth 20000 in
theorem k83 : (Jvm.Cond.static ({ cls := "java/lang/Math", name := "max", desc := "(II)I" } : Jvm.MethodName)) ∈ wT := wk (lwt_1 (List.mem_of_getElem? (i := 38) (by decide +kernel))) rfl
set_option maxRecDepth 20000 in
theorem k84 : (Jvm.Cond.code ({ cls := "java/lang/Math", name := "max", desc := "(II)I" } : Jvm.MethodName) prog_17_method_65_code (2 : Nat) (Option.some Jvm.ClassFile.FieldType.int)) ∈ wT := wk (lwt_1 (List.mem_of_getElem? (i := 39) rfl)) rfl
set_option maxRecDepth 20000 in
theorem k85 : (Jvm.Cond.classLink "FaxRows" (25 : Nat) "FaxRows$Samples") ∈ wT := wk (lwt_1 (List.mem_of_getElem? (i := 40) (by decide +kernel))) rfl
set_option maxRecDepth 20000 in
theorem k86 : (Jvm.Cond.instantiable "FaxRows$Samples" (2 : Nat)) ∈ wT := wk (lwt_1 (List.mem_of_getElem? (i := 41) (by decide +kernel))) rfl
set_option maxRecDepth 20000 in
theorem k87 : (Jvm.Cond.methodLink "FaxRows" (27 : Nat) ({ cls := "FaxRows$Samples", name := "<init>", desc := "(I)V" } : Jvm.MethodName)) ∈ wT := wk (lwt_1 (List.mem_of_getElem? (i := 42) (by decide +kernel))) rfl
set_option maxRecDepth 20000 in
theorem k88 : (Jvm.Cond.instanceMethod ({ cls := "FaxRows$Samples", name := "<init>", desc := "(I)V" } : Jvm.MethodName)) ∈ wT := wk (lwt_1 (List.mem_of_getElem? (i := 43) (by decide +kernel))) rfl
set_option maxRecDepth 20000 in
theorem k89 : (Jvm.Cond.code ({ cls := "FaxRows$Samples", name := "<init>", desc := "(I)V" } : Jvm.MethodName) prog_6_method_1_code (2 : Nat) (Option.none : Option Jvm.ClassFile.FieldType)) ∈ wT := wk (lwt_1 (List.mem_of_getElem? (i := 44) rfl)) rfl
set_option maxRecDepth 20000 in
theorem k90 : (Jvm.Cond.methodLink "FaxRows$Samples" (1 : Nat) ({ cls := "java/lang/Object", name := "<init>", desc := "()V" } : Jvm.MethodName)) ∈ wT := wk (lwt_1 (List.mem_of_getElem? (i := 45) (by decide +kernel))) rfl
set_option maxRecDepth 20000 in
theorem k91 : (Jvm.Cond.fieldLink "FaxRows$Samples" (7 : Nat) "FaxRows$Samples" "width" "I") ∈ wT := wk (lwt_1 (List.mem_of_getElem? (i := 46) (by decide +kernel))) rfl
set_option maxRecDepth 20000 in
theorem k92 : (Jvm.Cond.fieldLink "FaxRows$Samples" (13 : Nat) "FaxRows$Samples" "words" "[I") ∈ wT := wk (lwt_1 (List.mem_of_getElem? (i := 47) (by decide +kernel))) rfl
set_option maxRecDepth 20000 in
theorem k98 : (Jvm.Cond.arrayClass Jvm.ClassFile.FieldType.int) ∈ wT := wk (lwt_1 (List.mem_of_getElem? (i := 53) (by decide +kernel))) rfl
set_option maxRecDepth 20000 in
theorem k99 : (Jvm.Cond.classLink "FaxRows" (34 : Nat) "FaxRows$Lists") ∈ wT := wk (lwt_1 (List.mem_of_getElem? (i := 54) (by decide +kernel))) rfl
set_option maxRecDepth 20000 in
theorem k100 : (Jvm.Cond.instantiable "FaxRows$Lists" (3 : Nat)) ∈ wT := wk (lwt_1 (List.mem_of_getElem? (i := 55) (by decide +kernel))) rfl
set_option maxRecDepth 20000 in
theorem n101 : (Jvm.Cond.methodLinkNest "FaxRows" (36 : Nat) ({ cls := "FaxRows$Lists", name := "<init>", desc := "()V" } : Jvm.MethodName) "FaxRows") ∈ wN := wnk (lwt_1 (List.mem_of_getElem? (i := 56) (by decide +kernel))) rfl
set_option maxRecDepth 20000 in
theorem k102 : (Jvm.Cond.instanceMethod ({ cls := "FaxRows$Lists", name := "<init>", desc := "()V" } : Jvm.MethodName)) ∈ wT := wk (lwt_1 (List.mem_of_getElem? (i := 57) (by decide +kernel))) rfl
set_option maxRecDepth 20000 in
theorem k103 : (Jvm.Cond.code ({ cls := "FaxRows$Lists", name := "<init>", desc := "()V" } : Jvm.MethodName) prog_4_method_1_code (1 : Nat) (Option.none : Option Jvm.ClassFile.FieldType)) ∈ wT := wk (lwt_1 (List.mem_of_getElem? (i := 58) rfl)) rfl
set_option maxRecDepth 20000 in
theorem k104 : (Jvm.Cond.methodLink "FaxRows$Lists" (3 : Nat) ({ cls := "java/lang/Object", name := "<init>", desc := "()V" } : Jvm.MethodName)) ∈ wT := wk (lwt_1 (List.mem_of_getElem? (i := 59) (by decide +kernel))) rfl
set_option maxRecDepth 20000 in
theorem k105 : (Jvm.Cond.fieldLink "FaxRows$Lists" (11 : Nat) "FaxRows$Lists" "starts" "[I") ∈ wT := wk (lwt_1 (List.mem_of_getElem? (i := 60) (by decide +kernel))) rfl
set_option maxRecDepth 20000 in
theorem k106 : (Jvm.Cond.fieldLink "FaxRows$Lists" (15 : Nat) "FaxRows$Lists" "items" "[I") ∈ wT := wk (lwt_1 (List.mem_of_getElem? (i := 61) (by decide +kernel))) rfl
set_option maxRecDepth 20000 in
theorem k107 : (Jvm.Cond.fieldLink "FaxRows$Lists" (18 : Nat) "FaxRows$Lists" "closed" "I") ∈ wT := wk (lwt_1 (List.mem_of_getElem? (i := 62) (by decide +kernel))) rfl
set_option maxRecDepth 20000 in
theorem k115 : (Jvm.Cond.classLink "FaxRows" (41 : Nat) "FaxRows$Bits") ∈ wT := wk (lwt_1 (List.mem_of_getElem? (i := 70) (by decide +kernel))) rfl
set_option maxRecDepth 20000 in
theorem k116 : (Jvm.Cond.instantiable "FaxRows$Bits" (4 : Nat)) ∈ wT := wk (lwt_1 (List.mem_of_getElem? (i := 71) (by decide +kernel))) rfl
set_option maxRecDepth 20000 in
theorem n117 : (Jvm.Cond.methodLinkNest "FaxRows" (43 : Nat) ({ cls := "FaxRows$Bits", name := "<init>", desc := "()V" } : Jvm.MethodName) "FaxRows") ∈ wN := wnk (lwt_1 (List.mem_of_getElem? (i := 72) (by decide +kernel))) rfl
set_option maxRecDepth 20000 in
theorem k118 : (Jvm.Cond.instanceMethod ({ cls := "FaxRows$Bits", name := "<init>", desc := "()V" } : Jvm.MethodName)) ∈ wT := wk (lwt_1 (List.mem_of_getElem? (i := 73) (by decide +kernel))) rfl
set_option maxRecDepth 20000 in
theorem k119 : (Jvm.Cond.code ({ cls := "FaxRows$Bits", name := "<init>", desc := "()V" } : Jvm.MethodName) prog_2_method_1_code (1 : Nat) (Option.none : Option Jvm.ClassFile.FieldType)) ∈ wT := wk (lwt_1 (List.mem_of_getElem? (i := 74) rfl)) rfl
set_option maxRecDepth 20000 in
theorem k120 : (Jvm.Cond.methodLink "FaxRows$Bits" (3 : Nat) ({ cls := "java/lang/Object", name := "<init>", desc := "()V" } : Jvm.MethodName)) ∈ wT := wk (lwt_1 (List.mem_of_getElem? (i := 75) (by decide +kernel))) rfl
set_option maxRecDepth 20000 in
theorem k121 : (Jvm.Cond.fieldLink "FaxRows$Bits" (9 : Nat) "FaxRows$Bits" "bytes" "[B") ∈ wT := wk (lwt_1 (List.mem_of_getElem? (i := 76) (by decide +kernel))) rfl
set_option maxRecDepth 20000 in
theorem k122 : (Jvm.Cond.fieldLink "FaxRows$Bits" (29 : Nat) "FaxRows$Bits" "count" "I") ∈ wT := wk (lwt_1 (List.mem_of_getElem? (i := 77) (by decide +kernel))) rfl
set_option maxRecDepth 20000 in
theorem k123 : (Jvm.Cond.fieldLink "FaxRows$Bits" (32 : Nat) "FaxRows$Bits" "place" "I") ∈ wT := wk (lwt_1 (List.mem_of_getElem? (i := 78) (by decide +kernel))) rfl
set_option maxRecDepth 20000 in
theorem k124 : (Jvm.Cond.fieldLink "FaxRows$Bits" (15 : Nat) "FaxRows$Bits" "turn" "I") ∈ wT := wk (lwt_1 (List.mem_of_getElem? (i := 79) (by decide +kernel))) rfl
set_option maxRecDepth 20000 in
theorem k134 : (Jvm.Cond.arrayClass Jvm.ClassFile.FieldType.byte) ∈ wT := wk (lwt_1 (List.mem_of_getElem? (i := 89) (by decide +kernel))) rfl
set_option maxRecDepth 20000 in
theorem k135 : (Jvm.Cond.classLink "FaxRows" (51 : Nat) "FaxRows$Writer") ∈ wT := wk (lwt_1 (List.mem_of_getElem? (i := 90) (by decide +kernel))) rfl
set_option maxRecDepth 20000 in
theorem k136 : (Jvm.Cond.instantiable "FaxRows$Writer" (4 : Nat)) ∈ wT := wk (lwt_1 (List.mem_of_getElem? (i := 91) (by decide +kernel))) rfl
set_option maxRecDepth 20000 in
theorem k137 : (Jvm.Cond.methodLink "FaxRows" (53 : Nat) ({ cls := "FaxRows$Writer", name := "<init>", desc := "(LFaxRows$Lists;ILFaxRows$Bits;)V" } : Jvm.MethodName)) ∈ wT := wk (lwt_1 (List.mem_of_getElem? (i := 92) (by decide +kernel))) rfl
set_option maxRecDepth 20000 in
theorem k138 : (Jvm.Cond.instanceMethod ({ cls := "FaxRows$Writer", name := "<init>", desc := "(LFaxRows$Lists;ILFaxRows$Bits;)V" } : Jvm.MethodName)) ∈ wT := wk (lwt_1 (List.mem_of_getElem? (i := 93) (by decide +kernel))) rfl
set_option maxRecDepth 20000 in
theorem k139 : (Jvm.Cond.code ({ cls := "FaxRows$Writer", name := "<init>", desc := "(LFaxRows$Lists;ILFaxRows$Bits;)V" } : Jvm.MethodName) prog_8_method_1_code (4 : Nat) (Option.none : Option Jvm.ClassFile.FieldType)) ∈ wT := wk (lwt_1 (List.mem_of_getElem? (i := 94) rfl)) rfl
set_option maxRecDepth 20000 in
theorem k140 : (Jvm.Cond.methodLink "FaxRows$Writer" (3 : Nat) ({ cls := "java/lang/Object", name := "<init>", desc := "()V" } : Jvm.MethodName)) ∈ wT := wk (lwt_1 (List.mem_of_getElem? (i := 95) (by decide +kernel))) rfl
set_option maxRecDepth 20000 in
theorem k141 : (Jvm.Cond.classLink "FaxRows$Writer" (23 : Nat) "FaxRows$Told") ∈ wT := wk (lwt_1 (List.mem_of_getElem? (i := 96) (by decide +kernel))) rfl
set_option maxRecDepth 20000 in
theorem k142 : (Jvm.Cond.instantiable "FaxRows$Told" (6 : Nat)) ∈ wT := wk (lwt_1 (List.mem_of_getElem? (i := 97) (by decide +kernel))) rfl
set_option maxRecDepth 20000 in
theorem k143 : (Jvm.Cond.methodLink "FaxRows$Writer" (25 : Nat) ({ cls := "FaxRows$Told", name := "<init>", desc := "(LFaxRows$Lists;I)V" } : Jvm.MethodName)) ∈ wT := wk (lwt_1 (List.mem_of_getElem? (i := 98) (by decide +kernel))) rfl
set_option maxRecDepth 20000 in
theorem k144 : (Jvm.Cond.instanceMethod ({ cls := "FaxRows$Told", name := "<init>", desc := "(LFaxRows$Lists;I)V" } : Jvm.MethodName)) ∈ wT := wk (lwt_1 (List.mem_of_getElem? (i := 99) (by decide +kernel))) rfl
set_option maxRecDepth 20000 in
theorem k145 : (Jvm.Cond.code ({ cls := "FaxRows$Told", name := "<init>", desc := "(LFaxRows$Lists;I)V" } : Jvm.MethodName) prog_7_method_1_code (3 : Nat) (Option.none : Option Jvm.ClassFile.FieldType)) ∈ wT := wk (lwt_1 (List.mem_of_getElem? (i := 100) rfl)) rfl
set_option maxRecDepth 20000 in
theorem k146 : (Jvm.Cond.methodLink "FaxRows$Told" (1 : Nat) ({ cls := "java/lang/Object", name := "<init>", desc := "()V" } : Jvm.MethodName)) ∈ wT := wk (lwt_1 (List.mem_of_getElem? (i := 101) (by decide +kernel))) rfl
set_option maxRecDepth 20000 in
theorem k147 : (Jvm.Cond.fieldLink "FaxRows$Told" (7 : Nat) "FaxRows$Told" "rows" "LFaxRows$Lists;") ∈ wT := wk (lwt_1 (List.mem_of_getElem? (i := 102) (by decide +kernel))) rfl
set_option maxRecDepth 20000 in
theorem k148 : (Jvm.Cond.fieldLink "FaxRows$Told" (13 : Nat) "FaxRows$Told" "width" "I") ∈ wT := wk (lwt_1 (List.mem_of_getElem? (i := 103) (by decide +kernel))) rfl
set_option maxRecDepth 20000 in
theorem k149 : (Jvm.Cond.fieldLink "FaxRows$Told" (17 : Nat) "FaxRows$Told" "above" "I") ∈ wT := wk (lwt_1 (List.mem_of_getElem? (i := 104) (by decide +kernel))) rfl
set_option maxRecDepth 20000 in
theorem k150 : (Jvm.Cond.fieldLink "FaxRows$Told" (20 : Nat) "FaxRows$Told" "next" "I") ∈ wT := wk (lwt_1 (List.mem_of_getElem? (i := 105) (by decide +kernel))) rfl
set_option maxRecDepth 20000 in
theorem k151 : (Jvm.Cond.fieldLink "FaxRows$Told" (23 : Nat) "FaxRows$Told" "a0" "I") ∈ wT := wk (lwt_1 (List.mem_of_getElem? (i := 106) (by decide +kernel))) rfl
set_option maxRecDepth 20000 in
theorem k152 : (Jvm.Cond.fieldLink "FaxRows$Told" (26 : Nat) "FaxRows$Told" "black" "Z") ∈ wT := wk (lwt_1 (List.mem_of_getElem? (i := 107) (by decide +kernel))) rfl
set_option maxRecDepth 20000 in
theorem k166 : (Jvm.Cond.fieldLink "FaxRows$Writer" (9 : Nat) "FaxRows$Writer" "rows" "LFaxRows$Lists;") ∈ wT := wk (lwt_1 (List.mem_of_getElem? (i := 121) (by decide +kernel))) rfl
set_option maxRecDepth 20000 in
theorem k167 : (Jvm.Cond.fieldLink "FaxRows$Writer" (15 : Nat) "FaxRows$Writer" "width" "I") ∈ wT := wk (lwt_1 (List.mem_of_getElem? (i := 122) (by decide +kernel))) rfl
set_option maxRecDepth 20000 in
theorem k168 : (Jvm.Cond.fieldLink "FaxRows$Writer" (19 : Nat) "FaxRows$Writer" "out" "LFaxRows$Bits;") ∈ wT := wk (lwt_1 (List.mem_of_getElem? (i := 123) (by decide +kernel))) rfl
set_option maxRecDepth 20000 in
theorem k169 : (Jvm.Cond.fieldLink "FaxRows$Writer" (28 : Nat) "FaxRows$Writer" "told" "LFaxRows$Told;") ∈ wT := wk (lwt_1 (List.mem_of_getElem? (i := 124) (by decide +kernel))) rfl
set_option maxRecDepth 20000 in
theorem k179 : (Jvm.Cond.classLink "FaxRows" (60 : Nat) "FaxRows$Reader") ∈ wT := wk (lwt_1 (List.mem_of_getElem? (i := 134) (by decide +kernel))) rfl
set_option maxRecDepth 20000 in
theorem k180 : (Jvm.Cond.instantiable "FaxRows$Reader" (9 : Nat)) ∈ wT := wk (lwt_1 (List.mem_of_getElem? (i := 135) (by decide +kernel))) rfl
set_option maxRecDepth 20000 in
theorem k181 : (Jvm.Cond.methodLink "FaxRows" (62 : Nat) ({ cls := "FaxRows$Reader", name := "<init>", desc := "(ILFaxRows$Bits;)V" } : Jvm.MethodName)) ∈ wT := wk (lwt_1 (List.mem_of_getElem? (i := 136) (by decide +kernel))) rfl
set_option maxRecDepth 20000 in
theorem k182 : (Jvm.Cond.instanceMethod ({ cls := "FaxRows$Reader", name := "<init>", desc := "(ILFaxRows$Bits;)V" } : Jvm.MethodName)) ∈ wT := wk (lwt_1 (List.mem_of_getElem? (i := 137) (by decide +kernel))) rfl
set_option maxRecDepth 20000 in
theorem k183 : (Jvm.Cond.code ({ cls := "FaxRows$Reader", name := "<init>", desc := "(ILFaxRows$Bits;)V" } : Jvm.MethodName) prog_5_method_1_code (3 : Nat) (Option.none : Option Jvm.ClassFile.FieldType)) ∈ wT := wk (lwt_1 (List.mem_of_getElem? (i := 138) rfl)) rfl
set_option maxRecDepth 20000 in
theorem k184 : (Jvm.Cond.methodLink "FaxRows$Reader" (3 : Nat) ({ cls := "java/lang/Object", name := "<init>", desc := "()V" } : Jvm.MethodName)) ∈ wT := wk (lwt_1 (List.mem_of_getElem? (i := 139) (by decide +kernel))) rfl
set_option maxRecDepth 20000 in
theorem k185 : (Jvm.Cond.classLink "FaxRows$Reader" (9 : Nat) "FaxRows$Lists") ∈ wT := wk (lwt_1 (List.mem_of_getElem? (i := 140) (by decide +kernel))) rfl
set_option maxRecDepth 20000 in
theorem n186 : (Jvm.Cond.methodLinkNest "FaxRows$Reader" (11 : Nat) ({ cls := "FaxRows$Lists", name := "<init>", desc := "()V" } : Jvm.MethodName) "FaxRows") ∈ wN := wnk (lwt_1 (List.mem_of_getElem? (i := 141) (by decide +kernel))) rfl
set_option maxRecDepth 20000 in
theorem k187 : (Jvm.Cond.classLink "FaxRows$Reader" (25 : Nat) "FaxRows$CodeTree") ∈ wT := wk (lwt_1 (List.mem_of_getElem? (i := 142) (by decide +kernel))) rfl
set_option maxRecDepth 20000 in
theorem k188 : (Jvm.Cond.instantiable "FaxRows$CodeTree" (2 : Nat)) ∈ wT := wk (lwt_1 (List.mem_of_getElem? (i := 143) (by decide +kernel))) rfl
set_option maxRecDepth 20000 in
theorem n189 : (Jvm.Cond.methodLinkNest "FaxRows$Reader" (27 : Nat) ({ cls := "FaxRows$CodeTree", name := "<init>", desc := "()V" } : Jvm.MethodName) "FaxRows") ∈ wN := wnk (lwt_1 (List.mem_of_getElem? (i := 144) (by decide +kernel))) rfl
set_option maxRecDepth 20000 in
theorem k190 : (Jvm.Cond.instanceMethod ({ cls := "FaxRows$CodeTree", name := "<init>", desc := "()V" } : Jvm.MethodName)) ∈ wT := wk (lwt_1 (List.mem_of_getElem? (i := 145) (by decide +kernel))) rfl
set_option maxRecDepth 20000 in
theorem k191 : (Jvm.Cond.code ({ cls := "FaxRows$CodeTree", name := "<init>", desc := "()V" } : Jvm.MethodName) prog_3_method_1_code (1 : Nat) (Option.none : Option Jvm.ClassFile.FieldType)) ∈ wT := wk (lwt_1 (List.mem_of_getElem? (i := 146) rfl)) rfl
set_option maxRecDepth 20000 in
theorem k192 : (Jvm.Cond.methodLink "FaxRows$CodeTree" (3 : Nat) ({ cls := "java/lang/Object", name := "<init>", desc := "()V" } : Jvm.MethodName)) ∈ wT := wk (lwt_1 (List.mem_of_getElem? (i := 147) (by decide +kernel))) rfl
set_option maxRecDepth 20000 in
theorem k193 : (Jvm.Cond.fieldLink "FaxRows$CodeTree" (9 : Nat) "FaxRows$CodeTree" "branches" "[I") ∈ wT := wk (lwt_1 (List.mem_of_getElem? (i := 148) (by decide +kernel))) rfl
set_option maxRecDepth 20000 in
theorem k194 : (Jvm.Cond.fieldLink "FaxRows$CodeTree" (15 : Nat) "FaxRows$CodeTree" "nodes" "I") ∈ wT := wk (lwt_1 (List.mem_of_getElem? (i := 149) (by decide +kernel))) rfl
set_option maxRecDepth 20000 in
theorem k200 : (Jvm.Cond.arrayClass Jvm.ClassFile.FieldType.boolean) ∈ wT := wk (lwt_1 (List.mem_of_getElem? (i := 155) (by decide +kernel))) rfl
set_option maxRecDepth 20000 in
theorem n201 : (Jvm.Cond.fieldLinkNest "FaxRows$Reader" (42 : Nat) "FaxRows" "WHITE_RUNS" "[I" "FaxRows") ∈ wN := wnk (lwt_1 (List.mem_of_getElem? (i := 156) (by decide +kernel))) rfl
set_option maxRecDepth 20000 in
theorem k203 : (Jvm.Cond.methodLink "FaxRows$Reader" (46 : Nat) ({ cls := "FaxRows$CodeTree", name := "addAll", desc := "([II)V" } : Jvm.MethodName)) ∈ wT := wk (lwt_1 (List.mem_of_getElem? (i := 158) (by decide +kernel))) rfl
set_option maxRecDepth 20000 in
theorem k204 : (Jvm.Cond.instanceMethod ({ cls := "FaxRows$CodeTree", name := "addAll", desc := "([II)V" } : Jvm.MethodName)) ∈ wT := wk (lwt_1 (List.mem_of_getElem? (i := 159) (by decide +kernel))) rfl
set_option maxRecDepth 20000 in
theorem k205 : (Jvm.Cond.selects "FaxRows$CodeTree" ({ cls := "FaxRows$CodeTree", name := "addAll", desc := "([II)V" } : Jvm.MethodName) ({ cls := "FaxRows$CodeTree", name := "addAll", desc := "([II)V" } : Jvm.MethodName)) ∈ wT := wk (lwt_1 (List.mem_of_getElem? (i := 160) (by decide +kernel))) rfl
set_option maxRecDepth 20000 in
theorem k206 : (Jvm.Cond.code ({ cls := "FaxRows$CodeTree", name := "addAll", desc := "([II)V" } : Jvm.MethodName) prog_3_method_2_code (4 : Nat) (Option.none : Option Jvm.ClassFile.FieldType)) ∈ wT := wk (lwt_1 (List.mem_of_getElem? (i := 161) rfl)) rfl
set_option maxRecDepth 20000 in
theorem k207 : (Jvm.Cond.methodLink "FaxRows$CodeTree" (19 : Nat) ({ cls := "FaxRows$CodeTree", name := "add", desc := "(II)V" } : Jvm.MethodName)) ∈ wT := wk (lwt_1 (List.mem_of_getElem? (i := 162) (by decide +kernel))) rfl
set_option maxRecDepth 20000 in
theorem k209 : (Jvm.Cond.instanceMethod ({ cls := "FaxRows$CodeTree", name := "add", desc := "(II)V" } : Jvm.MethodName)) ∈ wT := wk (lwt_1 (List.mem_of_getElem? (i := 164) (by decide +kernel))) rfl
set_option maxRecDepth 20000 in
theorem k210 : (Jvm.Cond.code ({ cls := "FaxRows$CodeTree", name := "add", desc := "(II)V" } : Jvm.MethodName) prog_3_method_3_code (5 : Nat) (Option.none : Option Jvm.ClassFile.FieldType)) ∈ wT := wk (lwt_1 (List.mem_of_getElem? (i := 165) rfl)) rfl
set_option maxRecDepth 20000 in
theorem n211 : (Jvm.Cond.methodLinkNest "FaxRows$CodeTree" (23 : Nat) ({ cls := "FaxRows", name := "topBit", desc := "(I)I" } : Jvm.MethodName) "FaxRows") ∈ wN := wnk (lwt_1 (List.mem_of_getElem? (i := 166) (by decide +kernel))) rfl
set_option maxRecDepth 20000 in
theorem k212 : (Jvm.Cond.static ({ cls := "FaxRows", name := "topBit", desc := "(I)I" } : Jvm.MethodName)) ∈ wT := wk (lwt_1 (List.mem_of_getElem? (i := 167) (by decide +kernel))) rfl
set_option maxRecDepth 20000 in
theorem k213 : (Jvm.Cond.code ({ cls := "FaxRows", name := "topBit", desc := "(I)I" } : Jvm.MethodName) prog_1_method_16_code (2 : Nat) (Option.some Jvm.ClassFile.FieldType.int)) ∈ wT := wk (lwt_1 (List.mem_of_getElem? (i := 168) rfl)) rfl
set_option maxRecDepth 20000 in
theorem k214 : (Jvm.Cond.methodLink "FaxRows$CodeTree" (27 : Nat) ({ cls := "FaxRows$CodeTree", name := "nodeBelow", desc := "(IZ)I" } : Jvm.MethodName)) ∈ wT := wk (lwt_1 (List.mem_of_getElem? (i := 169) (by decide +kernel))) rfl
set_option maxRecDepth 20000 in
theorem k216 : (Jvm.Cond.instanceMethod ({ cls := "FaxRows$CodeTree", name := "nodeBelow", desc := "(IZ)I" } : Jvm.MethodName)) ∈ wT := wk (lwt_1 (List.mem_of_getElem? (i := 171) (by decide +kernel))) rfl
set_option maxRecDepth 20000 in
theorem k217 : (Jvm.Cond.code ({ cls := "FaxRows$CodeTree", name := "nodeBelow", desc := "(IZ)I" } : Jvm.MethodName) prog_3_method_4_code (4 : Nat) (Option.some Jvm.ClassFile.FieldType.int)) ∈ wT := wk (lwt_1 (List.mem_of_getElem? (i := 172) rfl)) rfl
set_option maxRecDepth 20000 in
theorem k218 : (Jvm.Cond.methodLink "FaxRows$CodeTree" (35 : Nat) ({ cls := "FaxRows$CodeTree", name := "branch", desc := "(IZ)I" } : Jvm.MethodName)) ∈ wT := wk (lwt_1 (List.mem_of_getElem? (i := 173) (by decide +kernel))) rfl
set_option maxRecDepth 20000 in
theorem k220 : (Jvm.Cond.instanceMethod ({ cls := "FaxRows$CodeTree", name := "branch", desc := "(IZ)I" } : Jvm.MethodName)) ∈ wT := wk (lwt_1 (List.mem_of_getElem? (i := 175) (by decide +kernel))) rfl
set_option maxRecDepth 20000 in
theorem k221 : (Jvm.Cond.code ({ cls := "FaxRows$CodeTree", name := "branch", desc := "(IZ)I" } : Jvm.MethodName) prog_3_method_5_code (4 : Nat) (Option.some Jvm.ClassFile.FieldType.int)) ∈ wT := wk (lwt_1 (List.mem_of_getElem? (i := 176) rfl)) rfl
set_option maxRecDepth 20000 in
theorem k222 : (Jvm.Cond.methodLink "FaxRows$CodeTree" (38 : Nat) ({ cls := "java/util/Arrays", name := "copyOf", desc := "([II)[I" } : Jvm.MethodName)) ∈ wT := wk (lwt_1 (List.mem_of_getElem? (i := 177) (by decide +kernel))) rfl
set_option maxRecDepth 20000 in
theorem k223 : (Jvm.Cond.static ({ cls := "java/util/Arrays", name := "copyOf", desc := "([II)[I" } : Jvm.MethodName)) ∈ wT := wk (lwt_1 (List.mem_of_getElem? (i := 178) (by decide +kernel))) rfl
set_option maxRecDepth 20000 in
theorem k224 : (Jvm.Cond.code ({ cls := "java/util/Arrays", name := "copyOf", desc := "([II)[I" } : Jvm.MethodName) prog_25_method_123_code (3 : Nat) (Option.some (Jvm.ClassFile.FieldType.array Jvm.ClassFile.FieldType.int))) ∈ wT := wk (lwt_1 (List.mem_of_getElem? (i := 179) rfl)) rfl
set_option maxRecDepth 20000 in
theorem k225 : (Jvm.Cond.methodLink "java/util/Arrays" (316 : Nat) ({ cls := "[I", name := "clone", desc := "()Ljava/lang/Object;" } : Jvm.MethodName)) ∈ wT := wk (lwt_1 (List.mem_of_getElem? (i := 180) (by decide +kernel))) rfl
set_option maxRecDepth 20000 in
theorem k227 : (Jvm.Cond.native ({ cls := "java/lang/Object", name := "clone", desc := "()Ljava/lang/Object;" } : Jvm.MethodName)) ∈ wT := wk (lwt_1 (List.mem_of_getElem? (i := 182) (by decide +kernel))) rfl
set_option maxRecDepth 20000 in
theorem k228 : (Jvm.Cond.instanceMethod ({ cls := "java/lang/Object", name := "clone", desc := "()Ljava/lang/Object;" } : Jvm.MethodName)) ∈ wT := wk (lwt_1 (List.mem_of_getElem? (i := 183) (by decide +kernel))) rfl
set_option maxRecDepth 20000 in
theorem k229 : (Jvm.Cond.selects "[I" ({ cls := "[I", name := "clone", desc := "()Ljava/lang/Object;" } : Jvm.MethodName) ({ cls := "java/lang/Object", name := "clone", desc := "()Ljava/lang/Object;" } : Jvm.MethodName)) ∈ wT := wk (lwt_1 (List.mem_of_getElem? (i := 184) (by decide +kernel))) rfl
set_option maxRecDepth 20000 in
theorem k231 : (Jvm.Cond.classLink "java/util/Arrays" (317 : Nat) "[I") ∈ wT := wk (lwt_1 (List.mem_of_getElem? (i := 186) (by decide +kernel))) rfl
set_option maxRecDepth 20000 in
theorem k232 : (Jvm.Cond.methodLink "java/util/Arrays" (304 : Nat) ({ cls := "java/lang/Math", name := "min", desc := "(II)I" } : Jvm.MethodName)) ∈ wT := wk (lwt_1 (List.mem_of_getElem? (i := 187) (by decide +kernel))) rfl
set_option maxRecDepth 20000 in
theorem k233 : (Jvm.Cond.methodLink "java/util/Arrays" (150 : Nat) ({ cls := "java/lang/System", name := "arraycopy", desc := "(Ljava/lang/Object;ILjava/lang/Object;II)V" } : Jvm.MethodName)) ∈ wT := wk (lwt_1 (List.mem_of_getElem? (i := 188) (by decide +kernel))) rfl
set_option maxRecDepth 20000 in
theorem k234 : (Jvm.Cond.static ({ cls := "java/lang/System", name := "arraycopy", desc := "(Ljava/lang/Object;ILjava/lang/Object;II)V" } : Jvm.MethodName)) ∈ wT := wk (lwt_1 (List.mem_of_getElem? (i := 189) (by decide +kernel))) rfl
set_option maxRecDepth 20000 in
theorem k235 : (Jvm.Cond.native ({ cls := "java/lang/System", name := "arraycopy", desc := "(Ljava/lang/Object;ILjava/lang/Object;II)V" } : Jvm.MethodName)) ∈ wT := wk (lwt_1 (List.mem_of_getElem? (i := 190) (by decide +kernel))) rfl
set_option maxRecDepth 20000 in
theorem k236 : (Jvm.Cond.methodLink "FaxRows$CodeTree" (31 : Nat) ({ cls := "FaxRows$CodeTree", name := "setBranch", desc := "(IZI)V" } : Jvm.MethodName)) ∈ wT := wk (lwt_1 (List.mem_of_getElem? (i := 191) (by decide +kernel))) rfl
set_option maxRecDepth 20000 in
theorem k238 : (Jvm.Cond.instanceMethod ({ cls := "FaxRows$CodeTree", name := "setBranch", desc := "(IZI)V" } : Jvm.MethodName)) ∈ wT := wk (lwt_1 (List.mem_of_getElem? (i := 193) (by decide +kernel))) rfl
set_option maxRecDepth 20000 in
theorem k239 : (Jvm.Cond.code ({ cls := "FaxRows$CodeTree", name := "setBranch", desc := "(IZI)V" } : Jvm.MethodName) prog_3_method_6_code (5 : Nat) (Option.none : Option Jvm.ClassFile.FieldType)) ∈ wT := wk (lwt_1 (List.mem_of_getElem? (i := 194) rfl)) rfl
set_option maxRecDepth 20000 in
theorem n240 : (Jvm.Cond.fieldLinkNest "FaxRows$Reader" (50 : Nat) "FaxRows" "LONG_RUNS" "[I" "FaxRows") ∈ wN := wnk (lwt_1 (List.mem_of_getElem? (i := 195) (by decide +kernel))) rfl
set_option maxRecDepth 20000 in
theorem n242 : (Jvm.Cond.fieldLinkNest "FaxRows$Reader" (53 : Nat) "FaxRows" "BLACK_RUNS" "[I" "FaxRows") ∈ wN := wnk (lwt_1 (List.mem_of_getElem? (i := 197) (by decide +kernel))) rfl
set_option maxRecDepth 20000 in
theorem n244 : (Jvm.Cond.fieldLinkNest "FaxRows$Reader" (56 : Nat) "FaxRows" "MODES" "[I" "FaxRows") ∈ wN := wnk (lwt_1 (List.mem_of_getElem? (i := 199) (by decide +kernel))) rfl
set_option maxRecDepth 20000 in
theorem k246 : (Jvm.Cond.classLink "FaxRows$Reader" (63 : Nat) "FaxRows$Told") ∈ wT := wk (lwt_1 (List.mem_of_getElem? (i := 201) (by decide +kernel))) rfl
set_option maxRecDepth 20000 in
theorem k247 : (Jvm.Cond.methodLink "FaxRows$Reader" (65 : Nat) ({ cls := "FaxRows$Told", name := "<init>", desc := "(LFaxRows$Lists;I)V" } : Jvm.MethodName)) ∈ wT := wk (lwt_1 (List.mem_of_getElem? (i := 202) (by decide +kernel))) rfl
set_option maxRecDepth 20000 in
theorem k248 : (Jvm.Cond.fieldLink "FaxRows$Reader" (38 : Nat) "FaxRows$Reader" "width" "I") ∈ wT := wk (lwt_1 (List.mem_of_getElem? (i := 203) (by decide +kernel))) rfl
set_option maxRecDepth 20000 in
theorem k249 : (Jvm.Cond.fieldLink "FaxRows$Reader" (12 : Nat) "FaxRows$Reader" "rows" "LFaxRows$Lists;") ∈ wT := wk (lwt_1 (List.mem_of_getElem? (i := 204) (by decide +kernel))) rfl
set_option maxRecDepth 20000 in
theorem k250 : (Jvm.Cond.fieldLink "FaxRows$Reader" (18 : Nat) "FaxRows$Reader" "modes" "LFaxRows$Lists;") ∈ wT := wk (lwt_1 (List.mem_of_getElem? (i := 205) (by decide +kernel))) rfl
set_option maxRecDepth 20000 in
theorem k251 : (Jvm.Cond.fieldLink "FaxRows$Reader" (21 : Nat) "FaxRows$Reader" "damages" "[Z") ∈ wT := wk (lwt_1 (List.mem_of_getElem? (i := 206) (by decide +kernel))) rfl
set_option maxRecDepth 20000 in
theorem k252 : (Jvm.Cond.fieldLink "FaxRows$Reader" (28 : Nat) "FaxRows$Reader" "whiteRuns" "LFaxRows$CodeTree;") ∈ wT := wk (lwt_1 (List.mem_of_getElem? (i := 207) (by decide +kernel))) rfl
set_option maxRecDepth 20000 in
theorem k253 : (Jvm.Cond.fieldLink "FaxRows$Reader" (32 : Nat) "FaxRows$Reader" "blackRuns" "LFaxRows$CodeTree;") ∈ wT := wk (lwt_1 (List.mem_of_getElem? (i := 208) (by decide +kernel))) rfl
set_option maxRecDepth 20000 in
theorem k254 : (Jvm.Cond.fieldLink "FaxRows$Reader" (35 : Nat) "FaxRows$Reader" "modeCodes" "LFaxRows$CodeTree;") ∈ wT := wk (lwt_1 (List.mem_of_getElem? (i := 209) (by decide +kernel))) rfl
set_option maxRecDepth 20000 in
theorem k255 : (Jvm.Cond.fieldLink "FaxRows$Reader" (68 : Nat) "FaxRows$Reader" "told" "LFaxRows$Told;") ∈ wT := wk (lwt_1 (List.mem_of_getElem? (i := 210) (by decide +kernel))) rfl
set_option maxRecDepth 20000 in
theorem k256 : (Jvm.Cond.fieldLink "FaxRows$Reader" (59 : Nat) "FaxRows$Reader" "in" "LFaxRows$Bits;") ∈ wT := wk (lwt_1 (List.mem_of_getElem? (i := 211) (by decide +kernel))) rfl
set_option maxRecDepth 20000 in
theorem k276 : (Jvm.Cond.fieldLink "FaxRows" (18 : Nat) "FaxRows" "kind" "I") ∈ wT := wk (lwt_1 (List.mem_of_getElem? (i := 231) (by decide +kernel))) rfl
set_option maxRecDepth 20000 in
theorem k277 : (Jvm.Cond.fieldLink "FaxRows" (22 : Nat) "FaxRows" "width" "I") ∈ wT := wk (lwt_1 (List.mem_of_getElem? (i := 232) (by decide +kernel))) rfl
set_option maxRecDepth 20000 in
theorem k278 : (Jvm.Cond.fieldLink "FaxRows" (30 : Nat) "FaxRows" "made" "LFaxRows$Samples;") ∈ wT := wk (lwt_1 (List.mem_of_getElem? (i := 233) (by decide +kernel))) rfl
set_option maxRecDepth 20000 in
theorem k279 : (Jvm.Cond.fieldLink "FaxRows" (37 : Nat) "FaxRows" "rows" "LFaxRows$Lists;") ∈ wT := wk (lwt_1 (List.mem_of_getElem? (i := 234) (by decide +kernel))) rfl
set_option maxRecDepth 20000 in
theorem k280 : (Jvm.Cond.fieldLink "FaxRows" (44 : Nat) "FaxRows" "written" "LFaxRows$Bits;") ∈ wT := wk (lwt_1 (List.mem_of_getElem? (i := 235) (by decide +kernel))) rfl
set_option maxRecDepth 20000 in
theorem k281 : (Jvm.Cond.fieldLink "FaxRows" (48 : Nat) "FaxRows" "fed" "LFaxRows$Bits;") ∈ wT := wk (lwt_1 (List.mem_of_getElem? (i := 236) (by decide +kernel))) rfl
set_option maxRecDepth 20000 in
theorem k282 : (Jvm.Cond.fieldLink "FaxRows" (56 : Nat) "FaxRows" "writer" "LFaxRows$Writer;") ∈ wT := wk (lwt_1 (List.mem_of_getElem? (i := 237) (by decide +kernel))) rfl
set_option maxRecDepth 20000 in
theorem k283 : (Jvm.Cond.fieldLink "FaxRows" (65 : Nat) "FaxRows" "reader" "LFaxRows$Reader;") ∈ wT := wk (lwt_1 (List.mem_of_getElem? (i := 238) (by decide +kernel))) rfl
set_option maxRecDepth 20000 in
theorem k284 : (Jvm.Cond.fieldLink "FaxRows" (93 : Nat) "FaxRows" "fillBits" "I") ∈ wT := wk (lwt_1 (List.mem_of_getElem? (i := 239) (by decide +kernel))) rfl
set_option maxRecDepth 20000 in
theorem k285 : (Jvm.Cond.fieldLink "FaxRows" (120 : Nat) "FaxRows" "repeatAbove" "Z") ∈ wT := wk (lwt_2 (List.mem_of_getElem? (i := 0) (by decide +kernel))) rfl
set_option maxRecDepth 20000 in
theorem k286 : (Jvm.Cond.fieldLink "FaxRows" (155 : Nat) "FaxRows" "lowestFirst" "Z") ∈ wT := wk (lwt_2 (List.mem_of_getElem? (i := 1) (by decide +kernel))) rfl
set_option maxRecDepth 20000 in
theorem k310 : (Jvm.Cond.methodLink "FaxRowsLaw" (27 : Nat) ({ cls := "FaxRows", name := "put", desc := "(IZ)Z" } : Jvm.MethodName)) ∈ wT := wk (lwt_2 (List.mem_of_getElem? (i := 25) (by decide +kernel))) rfl
set_option maxRecDepth 20000 in
theorem k311 : (Jvm.Cond.instanceMethod ({ cls := "FaxRows", name := "put", desc := "(IZ)Z" } : Jvm.MethodName)) ∈ wT := wk (lwt_2 (List.mem_of_getElem? (i := 26) (by decide +kernel))) rfl
set_option maxRecDepth 20000 in
theorem k312 : (Jvm.Cond.selects "FaxRows" ({ cls := "FaxRows", name := "put", desc := "(IZ)Z" } : Jvm.MethodName) ({ cls := "FaxRows", name := "put", desc := "(IZ)Z" } : Jvm.MethodName)) ∈ wT := wk (lwt_2 (List.mem_of_getElem? (i := 27) (by decide +kernel))) rfl
set_option maxRecDepth 20000 in
theorem k313 : (Jvm.Cond.code ({ cls := "FaxRows", name := "put", desc := "(IZ)Z" } : Jvm.MethodName) prog_1_method_2_code (3 : Nat) (Option.some Jvm.ClassFile.FieldType.boolean)) ∈ wT := wk (lwt_2 (List.mem_of_getElem? (i := 28) rfl)) rfl
set_option maxRecDepth 20000 in
theorem k314 : (Jvm.Cond.methodLink "FaxRows" (69 : Nat) ({ cls := "FaxRows$Samples", name := "set", desc := "(IZ)V" } : Jvm.MethodName)) ∈ wT := wk (lwt_2 (List.mem_of_getElem? (i := 29) (by decide +kernel))) rfl
set_option maxRecDepth 20000 in
theorem k315 : (Jvm.Cond.instanceMethod ({ cls := "FaxRows$Samples", name := "set", desc := "(IZ)V" } : Jvm.MethodName)) ∈ wT := wk (lwt_2 (List.mem_of_getElem? (i := 30) (by decide +kernel))) rfl
set_option maxRecDepth 20000 in
theorem k316 : (Jvm.Cond.selects "FaxRows$Samples" ({ cls := "FaxRows$Samples", name := "set", desc := "(IZ)V" } : Jvm.MethodName) ({ cls := "FaxRows$Samples", name := "set", desc := "(IZ)V" } : Jvm.MethodName)) ∈ wT := wk (lwt_2 (List.mem_of_getElem? (i := 31) (by decide +kernel))) rfl
set_option maxRecDepth 20000 in
theorem k317 : (Jvm.Cond.code ({ cls := "FaxRows$Samples", name := "set", desc := "(IZ)V" } : Jvm.MethodName) prog_6_method_2_code (5 : Nat) (Option.none : Option Jvm.ClassFile.FieldType)) ∈ wT := wk (lwt_2 (List.mem_of_getElem? (i := 32) rfl)) rfl
set_option maxRecDepth 20000 in
theorem k318 : (Jvm.Cond.methodLink "FaxRowsLaw" (32 : Nat) ({ cls := "FaxRows", name := "endRow", desc := "()Z" } : Jvm.MethodName)) ∈ wT := wk (lwt_2 (List.mem_of_getElem? (i := 33) (by decide +kernel))) rfl
set_option maxRecDepth 20000 in
theorem k319 : (Jvm.Cond.instanceMethod ({ cls := "FaxRows", name := "endRow", desc := "()Z" } : Jvm.MethodName)) ∈ wT := wk (lwt_2 (List.mem_of_getElem? (i := 34) (by decide +kernel))) rfl
set_option maxRecDepth 20000 in
theorem k320 : (Jvm.Cond.selects "FaxRows" ({ cls := "FaxRows", name := "endRow", desc := "()Z" } : Jvm.MethodName) ({ cls := "FaxRows", name := "endRow", desc := "()Z" } : Jvm.MethodName)) ∈ wT := wk (lwt_2 (List.mem_of_getElem? (i := 35) (by decide +kernel))) rfl
set_option maxRecDepth 20000 in
theorem k321 : (Jvm.Cond.code ({ cls := "FaxRows", name := "endRow", desc := "()Z" } : Jvm.MethodName) prog_1_method_3_code (1 : Nat) (Option.some Jvm.ClassFile.FieldType.boolean)) ∈ wT := wk (lwt_2 (List.mem_of_getElem? (i := 36) rfl)) rfl
set_option maxRecDepth 20000 in
theorem k322 : (Jvm.Cond.methodLink "FaxRows" (73 : Nat) ({ cls := "FaxRows$Lists", name := "count", desc := "()I" } : Jvm.MethodName)) ∈ wT := wk (lwt_2 (List.mem_of_getElem? (i := 37) (by decide +kernel))) rfl
set_option maxRecDepth 20000 in
theorem k323 : (Jvm.Cond.instanceMethod ({ cls := "FaxRows$Lists", name := "count", desc := "()I" } : Jvm.MethodName)) ∈ wT := wk (lwt_2 (List.mem_of_getElem? (i := 38) (by decide +kernel))) rfl
set_option maxRecDepth 20000 in
theorem k324 : (Jvm.Cond.selects "FaxRows$Lists" ({ cls := "FaxRows$Lists", name := "count", desc := "()I" } : Jvm.MethodName) ({ cls := "FaxRows$Lists", name := "count", desc := "()I" } : Jvm.MethodName)) ∈ wT := wk (lwt_2 (List.mem_of_getElem? (i := 39) (by decide +kernel))) rfl
set_option maxRecDepth 20000 in
theorem k325 : (Jvm.Cond.code ({ cls := "FaxRows$Lists", name := "count", desc := "()I" } : Jvm.MethodName) prog_4_method_3_code (1 : Nat) (Option.some Jvm.ClassFile.FieldType.int)) ∈ wT := wk (lwt_2 (List.mem_of_getElem? (i := 40) rfl)) rfl
set_option maxRecDepth 20000 in
theorem k326 : (Jvm.Cond.methodLink "FaxRows" (77 : Nat) ({ cls := "FaxRows$Samples", name := "addChangesTo", desc := "(LFaxRows$Lists;)V" } : Jvm.MethodName)) ∈ wT := wk (lwt_2 (List.mem_of_getElem? (i := 41) (by decide +kernel))) rfl
set_option maxRecDepth 20000 in
theorem k327 : (Jvm.Cond.instanceMethod ({ cls := "FaxRows$Samples", name := "addChangesTo", desc := "(LFaxRows$Lists;)V" } : Jvm.MethodName)) ∈ wT := wk (lwt_2 (List.mem_of_getElem? (i := 42) (by decide +kernel))) rfl
set_option maxRecDepth 20000 in
theorem k328 : (Jvm.Cond.selects "FaxRows$Samples" ({ cls := "FaxRows$Samples", name := "addChangesTo", desc := "(LFaxRows$Lists;)V" } : Jvm.MethodName) ({ cls := "FaxRows$Samples", name := "addChangesTo", desc := "(LFaxRows$Lists;)V" } : Jvm.MethodName)) ∈ wT := wk (lwt_2 (List.mem_of_getElem? (i := 43) (by decide +kernel))) rfl
set_option maxRecDepth 20000 in
theorem k329 : (Jvm.Cond.code ({ cls := "FaxRows$Samples", name := "addChangesTo", desc := "(LFaxRows$Lists;)V" } : Jvm.MethodName) prog_6_method_4_code (5 : Nat) (Option.none : Option Jvm.ClassFile.FieldType)) ∈ wT := wk (lwt_2 (List.mem_of_getElem? (i := 44) rfl)) rfl
set_option maxRecDepth 20000 in
theorem k330 : (Jvm.Cond.methodLink "FaxRows$Samples" (23 : Nat) ({ cls := "FaxRows$Samples", name := "addPlaces", desc := "(IILFaxRows$Lists;)V" } : Jvm.MethodName)) ∈ wT := wk (lwt_2 (List.mem_of_getElem? (i := 45) (by decide +kernel))) rfl
set_option maxRecDepth 20000 in
theorem k332 : (Jvm.Cond.instanceMethod ({ cls := "FaxRows$Samples", name := "addPlaces", desc := "(IILFaxRows$Lists;)V" } : Jvm.MethodName)) ∈ wT := wk (lwt_2 (List.mem_of_getElem? (i := 47) (by decide +kernel))) rfl
set_option maxRecDepth 20000 in
theorem k333 : (Jvm.Cond.code ({ cls := "FaxRows$Samples", name := "addPlaces", desc := "(IILFaxRows$Lists;)V" } : Jvm.MethodName) prog_6_method_5_code (5 : Nat) (Option.none : Option Jvm.ClassFile.FieldType)) ∈ wT := wk (lwt_2 (List.mem_of_getElem? (i := 48) rfl)) rfl
set_option maxRecDepth 20000 in
theorem k334 : (Jvm.Cond.methodLink "FaxRows$Samples" (27 : Nat) ({ cls := "FaxRows$Lists", name := "append", desc := "(I)V" } : Jvm.MethodName)) ∈ wT := wk (lwt_2 (List.mem_of_getElem? (i := 49) (by decide +kernel))) rfl
set_option maxRecDepth 20000 in
theorem k335 : (Jvm.Cond.instanceMethod ({ cls := "FaxRows$Lists", name := "append", desc := "(I)V" } : Jvm.MethodName)) ∈ wT := wk (lwt_2 (List.mem_of_getElem? (i := 50) (by decide +kernel))) rfl
set_option maxRecDepth 20000 in
theorem k336 : (Jvm.Cond.selects "FaxRows$Lists" ({ cls := "FaxRows$Lists", name := "append", desc := "(I)V" } : Jvm.MethodName) ({ cls := "FaxRows$Lists", name := "append", desc := "(I)V" } : Jvm.MethodName)) ∈ wT := wk (lwt_2 (List.mem_of_getElem? (i := 51) (by decide +kernel))) rfl
set_option maxRecDepth 20000 in
theorem k337 : (Jvm.Cond.code ({ cls := "FaxRows$Lists", name := "append", desc := "(I)V" } : Jvm.MethodName) prog_4_method_7_code (3 : Nat) (Option.none : Option Jvm.ClassFile.FieldType)) ∈ wT := wk (lwt_2 (List.mem_of_getElem? (i := 52) rfl)) rfl
set_option maxRecDepth 20000 in
theorem k338 : (Jvm.Cond.methodLink "FaxRows$Lists" (22 : Nat) ({ cls := "java/util/Arrays", name := "copyOf", desc := "([II)[I" } : Jvm.MethodName)) ∈ wT := wk (lwt_2 (List.mem_of_getElem? (i := 53) (by decide +kernel))) rfl
set_option maxRecDepth 20000 in
theorem k339 : (Jvm.Cond.methodLink "FaxRows" (81 : Nat) ({ cls := "FaxRows$Lists", name := "close", desc := "()V" } : Jvm.MethodName)) ∈ wT := wk (lwt_2 (List.mem_of_getElem? (i := 54) (by decide +kernel))) rfl
set_option maxRecDepth 20000 in
theorem k340 : (Jvm.Cond.instanceMethod ({ cls := "FaxRows$Lists", name := "close", desc := "()V" } : Jvm.MethodName)) ∈ wT := wk (lwt_2 (List.mem_of_getElem? (i := 55) (by decide +kernel))) rfl
set_option maxRecDepth 20000 in
theorem k341 : (Jvm.Cond.selects "FaxRows$Lists" ({ cls := "FaxRows$Lists", name := "close", desc := "()V" } : Jvm.MethodName) ({ cls := "FaxRows$Lists", name := "close", desc := "()V" } : Jvm.MethodName)) ∈ wT := wk (lwt_2 (List.mem_of_getElem? (i := 56) (by decide +kernel))) rfl
set_option maxRecDepth 20000 in
theorem k342 : (Jvm.Cond.code ({ cls := "FaxRows$Lists", name := "close", desc := "()V" } : Jvm.MethodName) prog_4_method_10_code (1 : Nat) (Option.none : Option Jvm.ClassFile.FieldType)) ∈ wT := wk (lwt_2 (List.mem_of_getElem? (i := 57) rfl)) rfl
set_option maxRecDepth 20000 in
theorem k343 : (Jvm.Cond.methodLink "FaxRows$Lists" (36 : Nat) ({ cls := "FaxRows$Lists", name := "emptyOpen", desc := "()V" } : Jvm.MethodName)) ∈ wT := wk (lwt_2 (List.mem_of_getElem? (i := 58) (by decide +kernel))) rfl
set_option maxRecDepth 20000 in
theorem k344 : (Jvm.Cond.instanceMethod ({ cls := "FaxRows$Lists", name := "emptyOpen", desc := "()V" } : Jvm.MethodName)) ∈ wT := wk (lwt_2 (List.mem_of_getElem? (i := 59) (by decide +kernel))) rfl
set_option maxRecDepth 20000 in
theorem k345 : (Jvm.Cond.selects "FaxRows$Lists" ({ cls := "FaxRows$Lists", name := "emptyOpen", desc := "()V" } : Jvm.MethodName) ({ cls := "FaxRows$Lists", name := "emptyOpen", desc := "()V" } : Jvm.MethodName)) ∈ wT := wk (lwt_2 (List.mem_of_getElem? (i := 60) (by decide +kernel))) rfl
set_option maxRecDepth 20000 in
theorem k346 : (Jvm.Cond.code ({ cls := "FaxRows$Lists", name := "emptyOpen", desc := "()V" } : Jvm.MethodName) prog_4_method_11_code (1 : Nat) (Option.none : Option Jvm.ClassFile.FieldType)) ∈ wT := wk (lwt_2 (List.mem_of_getElem? (i := 61) rfl)) rfl
set_option maxRecDepth 20000 in
theorem k347 : (Jvm.Cond.methodLink "FaxRows" (84 : Nat) ({ cls := "FaxRows$Samples", name := "whiten", desc := "()V" } : Jvm.MethodName)) ∈ wT := wk (lwt_2 (List.mem_of_getElem? (i := 62) (by decide +kernel))) rfl
set_option maxRecDepth 20000 in
theorem k348 : (Jvm.Cond.instanceMethod ({ cls := "FaxRows$Samples", name := "whiten", desc := "()V" } : Jvm.MethodName)) ∈ wT := wk (lwt_2 (List.mem_of_getElem? (i := 63) (by decide +kernel))) rfl
set_option maxRecDepth 20000 in
theorem k349 : (Jvm.Cond.selects "FaxRows$Samples" ({ cls := "FaxRows$Samples", name := "whiten", desc := "()V" } : Jvm.MethodName) ({ cls := "FaxRows$Samples", name := "whiten", desc := "()V" } : Jvm.MethodName)) ∈ wT := wk (lwt_2 (List.mem_of_getElem? (i := 64) (by decide +kernel))) rfl
set_option maxRecDepth 20000 in
theorem k350 : (Jvm.Cond.code ({ cls := "FaxRows$Samples", name := "whiten", desc := "()V" } : Jvm.MethodName) prog_6_method_3_code (1 : Nat) (Option.none : Option Jvm.ClassFile.FieldType)) ∈ wT := wk (lwt_2 (List.mem_of_getElem? (i := 65) rfl)) rfl
set_option maxRecDepth 20000 in
theorem k351 : (Jvm.Cond.methodLink "FaxRows$Samples" (17 : Nat) ({ cls := "java/util/Arrays", name := "fill", desc := "([II)V" } : Jvm.MethodName)) ∈ wT := wk (lwt_2 (List.mem_of_getElem? (i := 66) (by decide +kernel))) rfl
set_option maxRecDepth 20000 in
theorem k352 : (Jvm.Cond.static ({ cls := "java/util/Arrays", name := "fill", desc := "([II)V" } : Jvm.MethodName)) ∈ wT := wk (lwt_2 (List.mem_of_getElem? (i := 67) (by decide +kernel))) rfl
set_option maxRecDepth 20000 in
theorem k353 : (Jvm.Cond.code ({ cls := "java/util/Arrays", name := "fill", desc := "([II)V" } : Jvm.MethodName) prog_25_method_103_code (4 : Nat) (Option.none : Option Jvm.ClassFile.FieldType)) ∈ wT := wk (lwt_2 (List.mem_of_getElem? (i := 68) rfl)) rfl
set_option maxRecDepth 20000 in
theorem k354 : (Jvm.Cond.methodLink "FaxRowsLaw" (37 : Nat) ({ cls := "FaxRows", name := "encode", desc := "()I" } : Jvm.MethodName)) ∈ wT := wk (lwt_2 (List.mem_of_getElem? (i := 69) (by decide +kernel))) rfl
set_option maxRecDepth 20000 in
theorem k355 : (Jvm.Cond.instanceMethod ({ cls := "FaxRows", name := "encode", desc := "()I" } : Jvm.MethodName)) ∈ wT := wk (lwt_2 (List.mem_of_getElem? (i := 70) (by decide +kernel))) rfl
set_option maxRecDepth 20000 in
theorem k356 : (Jvm.Cond.selects "FaxRows" ({ cls := "FaxRows", name := "encode", desc := "()I" } : Jvm.MethodName) ({ cls := "FaxRows", name := "encode", desc := "()I" } : Jvm.MethodName)) ∈ wT := wk (lwt_2 (List.mem_of_getElem? (i := 71) (by decide +kernel))) rfl
set_option maxRecDepth 20000 in
theorem k357 : (Jvm.Cond.code ({ cls := "FaxRows", name := "encode", desc := "()I" } : Jvm.MethodName) prog_1_method_4_code (1 : Nat) (Option.some Jvm.ClassFile.FieldType.int)) ∈ wT := wk (lwt_2 (List.mem_of_getElem? (i := 72) rfl)) rfl
set_option maxRecDepth 20000 in
theorem k358 : (Jvm.Cond.methodLink "FaxRows" (87 : Nat) ({ cls := "FaxRows$Bits", name := "removeAll", desc := "()V" } : Jvm.MethodName)) ∈ wT := wk (lwt_2 (List.mem_of_getElem? (i := 73) (by decide +kernel))) rfl
set_option maxRecDepth 20000 in
theorem k359 : (Jvm.Cond.instanceMethod ({ cls := "FaxRows$Bits", name := "removeAll", desc := "()V" } : Jvm.MethodName)) ∈ wT := wk (lwt_2 (List.mem_of_getElem? (i := 74) (by decide +kernel))) rfl
set_option maxRecDepth 20000 in
theorem k360 : (Jvm.Cond.selects "FaxRows$Bits" ({ cls := "FaxRows$Bits", name := "removeAll", desc := "()V" } : Jvm.MethodName) ({ cls := "FaxRows$Bits", name := "removeAll", desc := "()V" } : Jvm.MethodName)) ∈ wT := wk (lwt_2 (List.mem_of_getElem? (i := 75) (by decide +kernel))) rfl
set_option maxRecDepth 20000 in
theorem k361 : (Jvm.Cond.code ({ cls := "FaxRows$Bits", name := "removeAll", desc := "()V" } : Jvm.MethodName) prog_2_method_3_code (1 : Nat) (Option.none : Option Jvm.ClassFile.FieldType)) ∈ wT := wk (lwt_2 (List.mem_of_getElem? (i := 76) rfl)) rfl
set_option maxRecDepth 20000 in
theorem k362 : (Jvm.Cond.methodLink "FaxRows$Bits" (19 : Nat) ({ cls := "FaxRows$Bits", name := "byteCount", desc := "()I" } : Jvm.MethodName)) ∈ wT := wk (lwt_2 (List.mem_of_getElem? (i := 77) (by decide +kernel))) rfl
set_option maxRecDepth 20000 in
theorem k363 : (Jvm.Cond.instanceMethod ({ cls := "FaxRows$Bits", name := "byteCount", desc := "()I" } : Jvm.MethodName)) ∈ wT := wk (lwt_2 (List.mem_of_getElem? (i := 78) (by decide +kernel))) rfl
set_option maxRecDepth 20000 in
theorem k364 : (Jvm.Cond.selects "FaxRows$Bits" ({ cls := "FaxRows$Bits", name := "byteCount", desc := "()I" } : Jvm.MethodName) ({ cls := "FaxRows$Bits", name := "byteCount", desc := "()I" } : Jvm.MethodName)) ∈ wT := wk (lwt_2 (List.mem_of_getElem? (i := 79) (by decide +kernel))) rfl
set_option maxRecDepth 20000 in
theorem k365 : (Jvm.Cond.code ({ cls := "FaxRows$Bits", name := "byteCount", desc := "()I" } : Jvm.MethodName) prog_2_method_5_code (1 : Nat) (Option.some Jvm.ClassFile.FieldType.int)) ∈ wT := wk (lwt_2 (List.mem_of_getElem? (i := 80) rfl)) rfl
set_option maxRecDepth 20000 in
theorem k366 : (Jvm.Cond.methodLink "FaxRows$Bits" (23 : Nat) ({ cls := "java/util/Arrays", name := "fill", desc := "([BIIB)V" } : Jvm.MethodName)) ∈ wT := wk (lwt_2 (List.mem_of_getElem? (i := 81) (by decide +kernel))) rfl
set_option maxRecDepth 20000 in
theorem k367 : (Jvm.Cond.static ({ cls := "java/util/Arrays", name := "fill", desc := "([BIIB)V" } : Jvm.MethodName)) ∈ wT := wk (lwt_2 (List.mem_of_getElem? (i := 82) (by decide +kernel))) rfl
set_option maxRecDepth 20000 in
theorem k368 : (Jvm.Cond.code ({ cls := "java/util/Arrays", name := "fill", desc := "([BIIB)V" } : Jvm.MethodName) prog_25_method_110_code (5 : Nat) (Option.none : Option Jvm.ClassFile.FieldType)) ∈ wT := wk (lwt_2 (List.mem_of_getElem? (i := 83) rfl)) rfl
set_option maxRecDepth 20000 in
theorem k369 : (Jvm.Cond.methodLink "java/util/Arrays" (13 : Nat) ({ cls := "java/util/Arrays", name := "rangeCheck", desc := "(III)V" } : Jvm.MethodName)) ∈ wT := wk (lwt_2 (List.mem_of_getElem? (i := 84) (by decide +kernel))) rfl
set_option maxRecDepth 20000 in
theorem k370 : (Jvm.Cond.static ({ cls := "java/util/Arrays", name := "rangeCheck", desc := "(III)V" } : Jvm.MethodName)) ∈ wT := wk (lwt_2 (List.mem_of_getElem? (i := 85) (by decide +kernel))) rfl
set_option maxRecDepth 20000 in
theorem k371 : (Jvm.Cond.code ({ cls := "java/util/Arrays", name := "rangeCheck", desc := "(III)V" } : Jvm.MethodName) prog_25_method_30_code (3 : Nat) (Option.none : Option Jvm.ClassFile.FieldType)) ∈ wT := wk (lwt_2 (List.mem_of_getElem? (i := 86) rfl)) rfl
set_option maxRecDepth 20000 in
theorem k477 : (Jvm.Cond.static ({ cls := "java/util/Arrays", name := "copyOf", desc := "([BI)[B" } : Jvm.MethodName)) ∈ wT := wk (lwt_2 (List.mem_of_getElem? (i := 192) (by decide +kernel))) rfl
set_option maxRecDepth 20000 in
theorem k478 : (Jvm.Cond.code ({ cls := "java/util/Arrays", name := "copyOf", desc := "([BI)[B" } : Jvm.MethodName) prog_25_method_121_code (3 : Nat) (Option.some (Jvm.ClassFile.FieldType.array Jvm.ClassFile.FieldType.byte))) ∈ wT := wk (lwt_2 (List.mem_of_getElem? (i := 193) rfl)) rfl
set_option maxRecDepth 20000 in
theorem k479 : (Jvm.Cond.methodLink "java/util/Arrays" (310 : Nat) ({ cls := "[B", name := "clone", desc := "()Ljava/lang/Object;" } : Jvm.MethodName)) ∈ wT := wk (lwt_2 (List.mem_of_getElem? (i := 194) (by decide +kernel))) rfl
set_option maxRecDepth 20000 in
theorem k481 : (Jvm.Cond.selects "[B" ({ cls := "[B", name := "clone", desc := "()Ljava/lang/Object;" } : Jvm.MethodName) ({ cls := "java/lang/Object", name := "clone", desc := "()Ljava/lang/Object;" } : Jvm.MethodName)) ∈ wT := wk (lwt_2 (List.mem_of_getElem? (i := 196) (by decide +kernel))) rfl
set_option maxRecDepth 20000 in
theorem k483 : (Jvm.Cond.classLink "java/util/Arrays" (311 : Nat) "[B") ∈ wT := wk (lwt_2 (List.mem_of_getElem? (i := 198) (by decide +kernel))) rfl
set_option maxRecDepth 20000 in
theorem k611 : (Jvm.Cond.static ({ cls := "java/util/Arrays", name := "copyOfRange", desc := "([BII)[B" } : Jvm.MethodName)) ∈ wT := wk (lwt_3 (List.mem_of_getElem? (i := 86) (by decide +kernel))) rfl
set_option maxRecDepth 20000 in
theorem k612 : (Jvm.Cond.code ({ cls := "java/util/Arrays", name := "copyOfRange", desc := "([BII)[B" } : Jvm.MethodName) prog_25_method_132_code (3 : Nat) (Option.some (Jvm.ClassFile.FieldType.array Jvm.ClassFile.FieldType.byte))) ∈ wT := wk (lwt_3 (List.mem_of_getElem? (i := 87) rfl)) rfl
set_option maxRecDepth 20000 in
theorem k613 : (Jvm.Cond.methodLink "java/util/Arrays" (339 : Nat) ({ cls := "java/util/Arrays", name := "copyOfRangeByte", desc := "([BII)[B" } : Jvm.MethodName)) ∈ wT := wk (lwt_3 (List.mem_of_getElem? (i := 88) (by decide +kernel))) rfl
set_option maxRecDepth 20000 in
theorem k614 : (Jvm.Cond.static ({ cls := "java/util/Arrays", name := "copyOfRangeByte", desc := "([BII)[B" } : Jvm.MethodName)) ∈ wT := wk (lwt_3 (List.mem_of_getElem? (i := 89) (by decide +kernel))) rfl
set_option maxRecDepth 20000 in
theorem k615 : (Jvm.Cond.code ({ cls := "java/util/Arrays", name := "copyOfRangeByte", desc := "([BII)[B" } : Jvm.MethodName) prog_25_method_133_code (5 : Nat) (Option.some (Jvm.ClassFile.FieldType.array Jvm.ClassFile.FieldType.byte))) ∈ wT := wk (lwt_3 (List.mem_of_getElem? (i := 90) rfl)) rfl
set_option maxRecDepth 20000 in
theorem k616 : (Jvm.Cond.methodLink "java/util/Arrays" (343 : Nat) ({ cls := "java/util/Arrays", name := "checkLength", desc := "(II)V" } : Jvm.MethodName)) ∈ wT := wk (lwt_3 (List.mem_of_getElem? (i := 91) (by decide +kernel))) rfl
set_option maxRecDepth 20000 in
theorem k617 : (Jvm.Cond.static ({ cls := "java/util/Arrays", name := "checkLength", desc := "(II)V" } : Jvm.MethodName)) ∈ wT := wk (lwt_3 (List.mem_of_getElem? (i := 92) (by decide +kernel))) rfl
set_option maxRecDepth 20000 in
theorem k618 : (Jvm.Cond.code ({ cls := "java/util/Arrays", name := "checkLength", desc := "(II)V" } : Jvm.MethodName) prog_25_method_131_code (2 : Nat) (Option.none : Option Jvm.ClassFile.FieldType)) ∈ wT := wk (lwt_3 (List.mem_of_getElem? (i := 93) rfl)) rfl
set_option maxRecDepth 20000 in
theorem k668 : (Jvm.Cond.methodLink "FaxRows" (90 : Nat) ({ cls := "FaxRows$Writer", name := "writeUnmarked", desc := "()V" } : Jvm.MethodName)) ∈ wT := wk (lwt_3 (List.mem_of_getElem? (i := 143) (by decide +kernel))) rfl
set_option maxRecDepth 20000 in
theorem k669 : (Jvm.Cond.instanceMethod ({ cls := "FaxRows$Writer", name := "writeUnmarked", desc := "()V" } : Jvm.MethodName)) ∈ wT := wk (lwt_3 (List.mem_of_getElem? (i := 144) (by decide +kernel))) rfl
set_option maxRecDepth 20000 in
theorem k670 : (Jvm.Cond.selects "FaxRows$Writer" ({ cls := "FaxRows$Writer", name := "writeUnmarked", desc := "()V" } : Jvm.MethodName) ({ cls := "FaxRows$Writer", name := "writeUnmarked", desc := "()V" } : Jvm.MethodName)) ∈ wT := wk (lwt_3 (List.mem_of_getElem? (i := 145) (by decide +kernel))) rfl
set_option maxRecDepth 20000 in
theorem k671 : (Jvm.Cond.code ({ cls := "FaxRows$Writer", name := "writeUnmarked", desc := "()V" } : Jvm.MethodName) prog_8_method_2_code (2 : Nat) (Option.none : Option Jvm.ClassFile.FieldType)) ∈ wT := wk (lwt_3 (List.mem_of_getElem? (i := 146) rfl)) rfl
set_option maxRecDepth 20000 in
theorem k672 : (Jvm.Cond.methodLink "FaxRows$Writer" (32 : Nat) ({ cls := "FaxRows$Lists", name := "count", desc := "()I" } : Jvm.MethodName)) ∈ wT := wk (lwt_3 (List.mem_of_getElem? (i := 147) (by decide +kernel))) rfl
set_option maxRecDepth 20000 in
theorem k673 : (Jvm.Cond.methodLink "FaxRows$Writer" (38 : Nat) ({ cls := "FaxRows$Writer", name := "writeModes", desc := "(I)V" } : Jvm.MethodName)) ∈ wT := wk (lwt_3 (List.mem_of_getElem? (i := 148) (by decide +kernel))) rfl
set_option maxRecDepth 20000 in
theorem k675 : (Jvm.Cond.instanceMethod ({ cls := "FaxRows$Writer", name := "writeModes", desc := "(I)V" } : Jvm.MethodName)) ∈ wT := wk (lwt_3 (List.mem_of_getElem? (i := 150) (by decide +kernel))) rfl
set_option maxRecDepth 20000 in
theorem k676 : (Jvm.Cond.code ({ cls := "FaxRows$Writer", name := "writeModes", desc := "(I)V" } : Jvm.MethodName) prog_8_method_6_code (7 : Nat) (Option.none : Option Jvm.ClassFile.FieldType)) ∈ wT := wk (lwt_3 (List.mem_of_getElem? (i := 151) rfl)) rfl
set_option maxRecDepth 20000 in
theorem k677 : (Jvm.Cond.methodLink "FaxRows$Writer" (76 : Nat) ({ cls := "FaxRows$Told", name := "begin", desc := "(I)V" } : Jvm.MethodName)) ∈ wT := wk (lwt_3 (List.mem_of_getElem? (i := 152) (by decide +kernel))) rfl
set_option maxRecDepth 20000 in
theorem k678 : (Jvm.Cond.instanceMethod ({ cls := "FaxRows$Told", name := "begin", desc := "(I)V" } : Jvm.MethodName)) ∈ wT := wk (lwt_3 (List.mem_of_getElem? (i := 153) (by decide +kernel))) rfl
set_option maxRecDepth 20000 in
theorem k679 : (Jvm.Cond.selects "FaxRows$Told" ({ cls := "FaxRows$Told", name := "begin", desc := "(I)V" } : Jvm.MethodName) ({ cls := "FaxRows$Told", name := "begin", desc := "(I)V" } : Jvm.MethodName)) ∈ wT := wk (lwt_3 (List.mem_of_getElem? (i := 154) (by decide +kernel))) rfl
set_option maxRecDepth 20000 in
theorem k680 : (Jvm.Cond.code ({ cls := "FaxRows$Told", name := "begin", desc := "(I)V" } : Jvm.MethodName) prog_7_method_2_code (2 : Nat) (Option.none : Option Jvm.ClassFile.FieldType)) ∈ wT := wk (lwt_3 (List.mem_of_getElem? (i := 155) rfl)) rfl
set_option maxRecDepth 20000 in
theorem k681 : (Jvm.Cond.methodLink "FaxRows$Writer" (79 : Nat) ({ cls := "FaxRows$Told", name := "isWhole", desc := "()Z" } : Jvm.MethodName)) ∈ wT := wk (lwt_3 (List.mem_of_getElem? (i := 156) (by decide +kernel))) rfl
set_option maxRecDepth 20000 in
theorem k682 : (Jvm.Cond.instanceMethod ({ cls := "FaxRows$Told", name := "isWhole", desc := "()Z" } : Jvm.MethodName)) ∈ wT := wk (lwt_3 (List.mem_of_getElem? (i := 157) (by decide +kernel))) rfl
set_option maxRecDepth 20000 in
theorem k683 : (Jvm.Cond.selects "FaxRows$Told" ({ cls := "FaxRows$Told", name := "isWhole", desc := "()Z" } : Jvm.MethodName) ({ cls := "FaxRows$Told", name := "isWhole", desc := "()Z" } : Jvm.MethodName)) ∈ wT := wk (lwt_3 (List.mem_of_getElem? (i := 158) (by decide +kernel))) rfl
set_option maxRecDepth 20000 in
theorem k684 : (Jvm.Cond.code ({ cls := "FaxRows$Told", name := "isWhole", desc := "()Z" } : Jvm.MethodName) prog_7_method_3_code (1 : Nat) (Option.some Jvm.ClassFile.FieldType.boolean)) ∈ wT := wk (lwt_3 (List.mem_of_getElem? (i := 159) rfl)) rfl
set_option maxRecDepth 20000 in
theorem k685 : (Jvm.Cond.methodLink "FaxRows$Writer" (68 : Nat) ({ cls := "FaxRows$Lists", name := "item", desc := "(III)I" } : Jvm.MethodName)) ∈ wT := wk (lwt_3 (List.mem_of_getElem? (i := 160) (by decide +kernel))) rfl
set_option maxRecDepth 20000 in
theorem k686 : (Jvm.Cond.instanceMethod ({ cls := "FaxRows$Lists", name := "item", desc := "(III)I" } : Jvm.MethodName)) ∈ wT := wk (lwt_3 (List.mem_of_getElem? (i := 161) (by decide +kernel))) rfl
set_option maxRecDepth 20000 in
theorem k687 : (Jvm.Cond.selects "FaxRows$Lists" ({ cls := "FaxRows$Lists", name := "item", desc := "(III)I" } : Jvm.MethodName) ({ cls := "FaxRows$Lists", name := "item", desc := "(III)I" } : Jvm.MethodName)) ∈ wT := wk (lwt_3 (List.mem_of_getElem? (i := 162) (by decide +kernel))) rfl
set_option maxRecDepth 20000 in
theorem k688 : (Jvm.Cond.code ({ cls := "FaxRows$Lists", name := "item", desc := "(III)I" } : Jvm.MethodName) prog_4_method_6_code (4 : Nat) (Option.some Jvm.ClassFile.FieldType.int)) ∈ wT := wk (lwt_3 (List.mem_of_getElem? (i := 163) rfl)) rfl
set_option maxRecDepth 20000 in
theorem k689 : (Jvm.Cond.methodLink "FaxRows$Writer" (83 : Nat) ({ cls := "FaxRows$Told", name := "b1", desc := "()I" } : Jvm.MethodName)) ∈ wT := wk (lwt_3 (List.mem_of_getElem? (i := 164) (by decide +kernel))) rfl
set_option maxRecDepth 20000 in
theorem k690 : (Jvm.Cond.instanceMethod ({ cls := "FaxRows$Told", name := "b1", desc := "()I" } : Jvm.MethodName)) ∈ wT := wk (lwt_3 (List.mem_of_getElem? (i := 165) (by decide +kernel))) rfl
set_option maxRecDepth 20000 in
theorem k691 : (Jvm.Cond.selects "FaxRows$Told" ({ cls := "FaxRows$Told", name := "b1", desc := "()I" } : Jvm.MethodName) ({ cls := "FaxRows$Told", name := "b1", desc := "()I" } : Jvm.MethodName)) ∈ wT := wk (lwt_3 (List.mem_of_getElem? (i := 166) (by decide +kernel))) rfl
set_option maxRecDepth 20000 in
theorem k692 : (Jvm.Cond.code ({ cls := "FaxRows$Told", name := "b1", desc := "()I" } : Jvm.MethodName) prog_7_method_7_code (1 : Nat) (Option.some Jvm.ClassFile.FieldType.int)) ∈ wT := wk (lwt_3 (List.mem_of_getElem? (i := 167) rfl)) rfl
set_option maxRecDepth 20000 in
theorem k693 : (Jvm.Cond.methodLink "FaxRows$Told" (36 : Nat) ({ cls := "FaxRows$Told", name := "numberOfB1", desc := "()I" } : Jvm.MethodName)) ∈ wT := wk (lwt_3 (List.mem_of_getElem? (i := 168) (by decide +kernel))) rfl
set_option maxRecDepth 20000 in
theorem k695 : (Jvm.Cond.instanceMethod ({ cls := "FaxRows$Told", name := "numberOfB1", desc := "()I" } : Jvm.MethodName)) ∈ wT := wk (lwt_3 (List.mem_of_getElem? (i := 170) (by decide +kernel))) rfl
set_option maxRecDepth 20000 in
theorem k696 : (Jvm.Cond.code ({ cls := "FaxRows$Told", name := "numberOfB1", desc := "()I" } : Jvm.MethodName) prog_7_method_11_code (2 : Nat) (Option.some Jvm.ClassFile.FieldType.int)) ∈ wT := wk (lwt_3 (List.mem_of_getElem? (i := 171) rfl)) rfl
set_option maxRecDepth 20000 in
theorem k697 : (Jvm.Cond.methodLink "FaxRows$Told" (40 : Nat) ({ cls := "FaxRows$Lists", name := "item", desc := "(III)I" } : Jvm.MethodName)) ∈ wT := wk (lwt_3 (List.mem_of_getElem? (i := 172) (by decide +kernel))) rfl
set_option maxRecDepth 20000 in
theorem k698 : (Jvm.Cond.methodLink "FaxRows$Writer" (86 : Nat) ({ cls := "FaxRows$Told", name := "b2", desc := "()I" } : Jvm.MethodName)) ∈ wT := wk (lwt_3 (List.mem_of_getElem? (i := 173) (by decide +kernel))) rfl
set_option maxRecDepth 20000 in
theorem k699 : (Jvm.Cond.instanceMethod ({ cls := "FaxRows$Told", name := "b2", desc := "()I" } : Jvm.MethodName)) ∈ wT := wk (lwt_3 (List.mem_of_getElem? (i := 174) (by decide +kernel))) rfl
set_option maxRecDepth 20000 in
theorem k700 : (Jvm.Cond.selects "FaxRows$Told" ({ cls := "FaxRows$Told", name := "b2", desc := "()I" } : Jvm.MethodName) ({ cls := "FaxRows$Told", name := "b2", desc := "()I" } : Jvm.MethodName)) ∈ wT := wk (lwt_3 (List.mem_of_getElem? (i := 175) (by decide +kernel))) rfl
set_option maxRecDepth 20000 in
theorem k701 : (Jvm.Cond.code ({ cls := "FaxRows$Told", name := "b2", desc := "()I" } : Jvm.MethodName) prog_7_method_8_code (1 : Nat) (Option.some Jvm.ClassFile.FieldType.int)) ∈ wT := wk (lwt_3 (List.mem_of_getElem? (i := 176) rfl)) rfl
set_option maxRecDepth 20000 in
theorem n702 : (Jvm.Cond.fieldLinkNest "FaxRows$Writer" (89 : Nat) "FaxRows" "MODES" "[I" "FaxRows") ∈ wN := wnk (lwt_3 (List.mem_of_getElem? (i := 177) (by decide +kernel))) rfl
set_option maxRecDepth 20000 in
theorem k703 : (Jvm.Cond.methodLink "FaxRows$Writer" (42 : Nat) ({ cls := "FaxRows$Bits", name := "addCode", desc := "(I)V" } : Jvm.MethodName)) ∈ wT := wk (lwt_3 (List.mem_of_getElem? (i := 178) (by decide +kernel))) rfl
set_option maxRecDepth 20000 in
theorem k704 : (Jvm.Cond.instanceMethod ({ cls := "FaxRows$Bits", name := "addCode", desc := "(I)V" } : Jvm.MethodName)) ∈ wT := wk (lwt_3 (List.mem_of_getElem? (i := 179) (by decide +kernel))) rfl
set_option maxRecDepth 20000 in
theorem k705 : (Jvm.Cond.selects "FaxRows$Bits" ({ cls := "FaxRows$Bits", name := "addCode", desc := "(I)V" } : Jvm.MethodName) ({ cls := "FaxRows$Bits", name := "addCode", desc := "(I)V" } : Jvm.MethodName)) ∈ wT := wk (lwt_3 (List.mem_of_getElem? (i := 180) (by decide +kernel))) rfl
set_option maxRecDepth 20000 in
theorem k706 : (Jvm.Cond.code ({ cls := "FaxRows$Bits", name := "addCode", desc := "(I)V" } : Jvm.MethodName) prog_2_method_9_code (3 : Nat) (Option.none : Option Jvm.ClassFile.FieldType)) ∈ wT := wk (lwt_3 (List.mem_of_getElem? (i := 181) rfl)) rfl
set_option maxRecDepth 20000 in
theorem k707 : (Jvm.Cond.methodLink "FaxRows$Bits" (35 : Nat) ({ cls := "FaxRows$Bits", name := "makeRoomFor", desc := "(I)V" } : Jvm.MethodName)) ∈ wT := wk (lwt_3 (List.mem_of_getElem? (i := 182) (by decide +kernel))) rfl
set_option maxRecDepth 20000 in
theorem k709 : (Jvm.Cond.instanceMethod ({ cls := "FaxRows$Bits", name := "makeRoomFor", desc := "(I)V" } : Jvm.MethodName)) ∈ wT := wk (lwt_3 (List.mem_of_getElem? (i := 184) (by decide +kernel))) rfl
set_option maxRecDepth 20000 in
theorem k710 : (Jvm.Cond.code ({ cls := "FaxRows$Bits", name := "makeRoomFor", desc := "(I)V" } : Jvm.MethodName) prog_2_method_18_code (3 : Nat) (Option.none : Option Jvm.ClassFile.FieldType)) ∈ wT := wk (lwt_3 (List.mem_of_getElem? (i := 185) rfl)) rfl
set_option maxRecDepth 20000 in
theorem k711 : (Jvm.Cond.methodLink "FaxRows$Bits" (59 : Nat) ({ cls := "java/lang/Math", name := "max", desc := "(II)I" } : Jvm.MethodName)) ∈ wT := wk (lwt_3 (List.mem_of_getElem? (i := 186) (by decide +kernel))) rfl
set_option maxRecDepth 20000 in
theorem k712 : (Jvm.Cond.methodLink "FaxRows$Bits" (62 : Nat) ({ cls := "java/util/Arrays", name := "copyOf", desc := "([BI)[B" } : Jvm.MethodName)) ∈ wT := wk (lwt_3 (List.mem_of_getElem? (i := 187) (by decide +kernel))) rfl
set_option maxRecDepth 20000 in
theorem n713 : (Jvm.Cond.methodLinkNest "FaxRows$Bits" (39 : Nat) ({ cls := "FaxRows", name := "topBit", desc := "(I)I" } : Jvm.MethodName) "FaxRows") ∈ wN := wnk (lwt_3 (List.mem_of_getElem? (i := 188) (by decide +kernel))) rfl
set_option maxRecDepth 20000 in
theorem k714 : (Jvm.Cond.methodLink "FaxRows$Writer" (93 : Nat) ({ cls := "FaxRows$Told", name := "moveTo", desc := "(I)V" } : Jvm.MethodName)) ∈ wT := wk (lwt_3 (List.mem_of_getElem? (i := 189) (by decide +kernel))) rfl
set_option maxRecDepth 20000 in
theorem k715 : (Jvm.Cond.instanceMethod ({ cls := "FaxRows$Told", name := "moveTo", desc := "(I)V" } : Jvm.MethodName)) ∈ wT := wk (lwt_3 (List.mem_of_getElem? (i := 190) (by decide +kernel))) rfl
set_option maxRecDepth 20000 in
theorem k716 : (Jvm.Cond.selects "FaxRows$Told" ({ cls := "FaxRows$Told", name := "moveTo", desc := "(I)V" } : Jvm.MethodName) ({ cls := "FaxRows$Told", name := "moveTo", desc := "(I)V" } : Jvm.MethodName)) ∈ wT := wk (lwt_3 (List.mem_of_getElem? (i := 191) (by decide +kernel))) rfl
set_option maxRecDepth 20000 in
theorem k717 : (Jvm.Cond.code ({ cls := "FaxRows$Told", name := "moveTo", desc := "(I)V" } : Jvm.MethodName) prog_7_method_9_code (3 : Nat) (Option.none : Option Jvm.ClassFile.FieldType)) ∈ wT := wk (lwt_3 (List.mem_of_getElem? (i := 192) rfl)) rfl
set_option maxRecDepth 20000 in
theorem k718 : (Jvm.Cond.methodLink "FaxRows$Told" (46 : Nat) ({ cls := "FaxRows$Lists", name := "length", desc := "(I)I" } : Jvm.MethodName)) ∈ wT := wk (lwt_3 (List.mem_of_getElem? (i := 193) (by decide +kernel))) rfl
set_option maxRecDepth 20000 in
theorem k719 : (Jvm.Cond.instanceMethod ({ cls := "FaxRows$Lists", name := "length", desc := "(I)I" } : Jvm.MethodName)) ∈ wT := wk (lwt_3 (List.mem_of_getElem? (i := 194) (by decide +kernel))) rfl
set_option maxRecDepth 20000 in
theorem k720 : (Jvm.Cond.selects "FaxRows$Lists" ({ cls := "FaxRows$Lists", name := "length", desc := "(I)I" } : Jvm.MethodName) ({ cls := "FaxRows$Lists", name := "length", desc := "(I)I" } : Jvm.MethodName)) ∈ wT := wk (lwt_3 (List.mem_of_getElem? (i := 195) (by decide +kernel))) rfl
set_option maxRecDepth 20000 in
theorem k721 : (Jvm.Cond.code ({ cls := "FaxRows$Lists", name := "length", desc := "(I)I" } : Jvm.MethodName) prog_4_method_5_code (2 : Nat) (Option.some Jvm.ClassFile.FieldType.int)) ∈ wT := wk (lwt_3 (List.mem_of_getElem? (i := 196) rfl)) rfl
set_option maxRecDepth 20000 in
theorem k722 : (Jvm.Cond.methodLink "FaxRows$Writer" (96 : Nat) ({ cls := "FaxRows$Told", name := "turnAt", desc := "(I)V" } : Jvm.MethodName)) ∈ wT := wk (lwt_3 (List.mem_of_getElem? (i := 197) (by decide +kernel))) rfl
set_option maxRecDepth 20000 in
theorem k723 : (Jvm.Cond.instanceMethod ({ cls := "FaxRows$Told", name := "turnAt", desc := "(I)V" } : Jvm.MethodName)) ∈ wT := wk (lwt_3 (List.mem_of_getElem? (i := 198) (by decide +kernel))) rfl
set_option maxRecDepth 20000 in
theorem k724 : (Jvm.Cond.selects "FaxRows$Told" ({ cls := "FaxRows$Told", name := "turnAt", desc := "(I)V" } : Jvm.MethodName) ({ cls := "FaxRows$Told", name := "turnAt", desc := "(I)V" } : Jvm.MethodName)) ∈ wT := wk (lwt_3 (List.mem_of_getElem? (i := 199) (by decide +kernel))) rfl
set_option maxRecDepth 20000 in
theorem k725 : (Jvm.Cond.code ({ cls := "FaxRows$Told", name := "turnAt", desc := "(I)V" } : Jvm.MethodName) prog_7_method_10_code (2 : Nat) (Option.none : Option Jvm.ClassFile.FieldType)) ∈ wT := wk (lwt_3 (List.mem_of_getElem? (i := 200) rfl)) rfl
set_option maxRecDepth 20000 in
theorem k726 : (Jvm.Cond.methodLink "FaxRows$Told" (50 : Nat) ({ cls := "FaxRows$Told", name := "moveTo", desc := "(I)V" } : Jvm.MethodName)) ∈ wT := wk (lwt_3 (List.mem_of_getElem? (i := 201) (by decide +kernel))) rfl
set_option maxRecDepth 20000 in
theorem k727 : (Jvm.Cond.methodLink "FaxRows$Writer" (99 : Nat) ({ cls := "FaxRows$Told", name := "runStart", desc := "()I" } : Jvm.MethodName)) ∈ wT := wk (lwt_3 (List.mem_of_getElem? (i := 202) (by decide +kernel))) rfl
set_option maxRecDepth 20000 in
theorem k728 : (Jvm.Cond.instanceMethod ({ cls := "FaxRows$Told", name := "runStart", desc := "()I" } : Jvm.MethodName)) ∈ wT := wk (lwt_3 (List.mem_of_getElem? (i := 203) (by decide +kernel))) rfl
set_option maxRecDepth 20000 in
theorem k729 : (Jvm.Cond.selects "FaxRows$Told" ({ cls := "FaxRows$Told", name := "runStart", desc := "()I" } : Jvm.MethodName) ({ cls := "FaxRows$Told", name := "runStart", desc := "()I" } : Jvm.MethodName)) ∈ wT := wk (lwt_3 (List.mem_of_getElem? (i := 204) (by decide +kernel))) rfl
set_option maxRecDepth 20000 in
theorem k730 : (Jvm.Cond.code ({ cls := "FaxRows$Told", name := "runStart", desc := "()I" } : Jvm.MethodName) prog_7_method_6_code (1 : Nat) (Option.some Jvm.ClassFile.FieldType.int)) ∈ wT := wk (lwt_3 (List.mem_of_getElem? (i := 205) rfl)) rfl
set_option maxRecDepth 20000 in
theorem k731 : (Jvm.Cond.methodLink "FaxRows$Told" (30 : Nat) ({ cls := "java/lang/Math", name := "max", desc := "(II)I" } : Jvm.MethodName)) ∈ wT := wk (lwt_3 (List.mem_of_getElem? (i := 206) (by decide +kernel))) rfl
set_option maxRecDepth 20000 in
theorem k732 : (Jvm.Cond.methodLink "FaxRows$Writer" (102 : Nat) ({ cls := "FaxRows$Told", name := "isBlack", desc := "()Z" } : Jvm.MethodName)) ∈ wT := wk (lwt_3 (List.mem_of_getElem? (i := 207) (by decide +kernel))) rfl
set_option maxRecDepth 20000 in
theorem k733 : (Jvm.Cond.instanceMethod ({ cls := "FaxRows$Told", name := "isBlack", desc := "()Z" } : Jvm.MethodName)) ∈ wT := wk (lwt_3 (List.mem_of_getElem? (i := 208) (by decide +kernel))) rfl
set_option maxRecDepth 20000 in
theorem k734 : (Jvm.Cond.selects "FaxRows$Told" ({ cls := "FaxRows$Told", name := "isBlack", desc := "()Z" } : Jvm.MethodName) ({ cls := "FaxRows$Told", name := "isBlack", desc := "()Z" } : Jvm.MethodName)) ∈ wT := wk (lwt_3 (List.mem_of_getElem? (i := 209) (by decide +kernel))) rfl
set_option maxRecDepth 20000 in
theorem k735 : (Jvm.Cond.code ({ cls := "FaxRows$Told", name := "isBlack", desc := "()Z" } : Jvm.MethodName) prog_7_method_5_code (1 : Nat) (Option.some Jvm.ClassFile.FieldType.boolean)) ∈ wT := wk (lwt_3 (List.mem_of_getElem? (i := 210) rfl)) rfl
set_option maxRecDepth 20000 in
theorem k736 : (Jvm.Cond.methodLink "FaxRows$Writer" (72 : Nat) ({ cls := "FaxRows$Writer", name := "writeRun", desc := "(IZ)V" } : Jvm.MethodName)) ∈ wT := wk (lwt_3 (List.mem_of_getElem? (i := 211) (by decide +kernel))) rfl
set_option maxRecDepth 20000 in
theorem k738 : (Jvm.Cond.instanceMethod ({ cls := "FaxRows$Writer", name := "writeRun", desc := "(IZ)V" } : Jvm.MethodName)) ∈ wT := wk (lwt_3 (List.mem_of_getElem? (i := 213) (by decide +kernel))) rfl
set_option maxRecDepth 20000 in
theorem k739 : (Jvm.Cond.code ({ cls := "FaxRows$Writer", name := "writeRun", desc := "(IZ)V" } : Jvm.MethodName) prog_8_method_7_code (4 : Nat) (Option.none : Option Jvm.ClassFile.FieldType)) ∈ wT := wk (lwt_3 (List.mem_of_getElem? (i := 214) rfl)) rfl
set_option maxRecDepth 20000 in
theorem k740 : (Jvm.Cond.methodLink "FaxRows$Writer" (105 : Nat) ({ cls := "FaxRows$Writer", name := "runCode", desc := "(IZ)I" } : Jvm.MethodName)) ∈ wT := wk (lwt_3 (List.mem_of_getElem? (i := 215) (by decide +kernel))) rfl
set_option maxRecDepth 20000 in
theorem k742 : (Jvm.Cond.instanceMethod ({ cls := "FaxRows$Writer", name := "runCode", desc := "(IZ)I" } : Jvm.MethodName)) ∈ wT := wk (lwt_3 (List.mem_of_getElem? (i := 217) (by decide +kernel))) rfl
set_option maxRecDepth 20000 in
theorem k743 : (Jvm.Cond.code ({ cls := "FaxRows$Writer", name := "runCode", desc := "(IZ)I" } : Jvm.MethodName) prog_8_method_8_code (5 : Nat) (Option.some Jvm.ClassFile.FieldType.int)) ∈ wT := wk (lwt_3 (List.mem_of_getElem? (i := 218) rfl)) rfl
set_option maxRecDepth 20000 in
theorem n744 : (Jvm.Cond.fieldLinkNest "FaxRows$Writer" (109 : Nat) "FaxRows" "BLACK_RUNS" "[I" "FaxRows") ∈ wN := wnk (lwt_3 (List.mem_of_getElem? (i := 219) (by decide +kernel))) rfl
set_option maxRecDepth 20000 in
theorem n745 : (Jvm.Cond.fieldLinkNest "FaxRows$Writer" (112 : Nat) "FaxRows" "WHITE_RUNS" "[I" "FaxRows") ∈ wN := wnk (lwt_3 (List.mem_of_getElem? (i := 220) (by decide +kernel))) rfl
set_option maxRecDepth 20000 in
theorem n746 : (Jvm.Cond.fieldLinkNest "FaxRows$Writer" (115 : Nat) "FaxRows" "LONG_RUNS" "[I" "FaxRows") ∈ wN := wnk (lwt_3 (List.mem_of_getElem? (i := 221) (by decide +kernel))) rfl
set_option maxRecDepth 20000 in
theorem k747 : (Jvm.Cond.methodLink "FaxRows" (96 : Nat) ({ cls := "FaxRows$Writer", name := "writeMarked", desc := "(ZI)V" } : Jvm.MethodName)) ∈ wT := wk (lwt_3 (List.mem_of_getElem? (i := 222) (by decide +kernel))) rfl
set_option maxRecDepth 20000 in
theorem k748 : (Jvm.Cond.instanceMethod ({ cls := "FaxRows$Writer", name := "writeMarked", desc := "(ZI)V" } : Jvm.MethodName)) ∈ wT := wk (lwt_3 (List.mem_of_getElem? (i := 223) (by decide +kernel))) rfl
set_option maxRecDepth 20000 in
theorem k749 : (Jvm.Cond.selects "FaxRows$Writer" ({ cls := "FaxRows$Writer", name := "writeMarked", desc := "(ZI)V" } : Jvm.MethodName) ({ cls := "FaxRows$Writer", name := "writeMarked", desc := "(ZI)V" } : Jvm.MethodName)) ∈ wT := wk (lwt_3 (List.mem_of_getElem? (i := 224) (by decide +kernel))) rfl
set_option maxRecDepth 20000 in
theorem k750 : (Jvm.Cond.code ({ cls := "FaxRows$Writer", name := "writeMarked", desc := "(ZI)V" } : Jvm.MethodName) prog_8_method_3_code (6 : Nat) (Option.none : Option Jvm.ClassFile.FieldType)) ∈ wT := wk (lwt_3 (List.mem_of_getElem? (i := 225) rfl)) rfl
set_option maxRecDepth 20000 in
theorem k751 : (Jvm.Cond.methodLink "FaxRows$Writer" (47 : Nat) ({ cls := "FaxRows$Writer", name := "writeMark", desc := "(ZZ)V" } : Jvm.MethodName)) ∈ wT := wk (lwt_3 (List.mem_of_getElem? (i := 226) (by decide +kernel))) rfl
set_option maxRecDepth 20000 in
theorem k753 : (Jvm.Cond.instanceMethod ({ cls := "FaxRows$Writer", name := "writeMark", desc := "(ZZ)V" } : Jvm.MethodName)) ∈ wT := wk (lwt_3 (List.mem_of_getElem? (i := 228) (by decide +kernel))) rfl
set_option maxRecDepth 20000 in
theorem k754 : (Jvm.Cond.code ({ cls := "FaxRows$Writer", name := "writeMark", desc := "(ZZ)V" } : Jvm.MethodName) prog_8_method_4_code (3 : Nat) (Option.none : Option Jvm.ClassFile.FieldType)) ∈ wT := wk (lwt_3 (List.mem_of_getElem? (i := 229) rfl)) rfl
set_option maxRecDepth 20000 in
theorem k755 : (Jvm.Cond.methodLink "FaxRows$Writer" (51 : Nat) ({ cls := "FaxRows$Bits", name := "count", desc := "()I" } : Jvm.MethodName)) ∈ wT := wk (lwt_3 (List.mem_of_getElem? (i := 230) (by decide +kernel))) rfl
set_option maxRecDepth 20000 in
theorem k756 : (Jvm.Cond.instanceMethod ({ cls := "FaxRows$Bits", name := "count", desc := "()I" } : Jvm.MethodName)) ∈ wT := wk (lwt_3 (List.mem_of_getElem? (i := 231) (by decide +kernel))) rfl
set_option maxRecDepth 20000 in
theorem k757 : (Jvm.Cond.selects "FaxRows$Bits" ({ cls := "FaxRows$Bits", name := "count", desc := "()I" } : Jvm.MethodName) ({ cls := "FaxRows$Bits", name := "count", desc := "()I" } : Jvm.MethodName)) ∈ wT := wk (lwt_3 (List.mem_of_getElem? (i := 232) (by decide +kernel))) rfl
set_option maxRecDepth 20000 in
theorem k758 : (Jvm.Cond.code ({ cls := "FaxRows$Bits", name := "count", desc := "()I" } : Jvm.MethodName) prog_2_method_4_code (1 : Nat) (Option.some Jvm.ClassFile.FieldType.int)) ∈ wT := wk (lwt_3 (List.mem_of_getElem? (i := 233) rfl)) rfl
set_option maxRecDepth 20000 in
theorem k759 : (Jvm.Cond.methodLink "FaxRows$Writer" (52 : Nat) ({ cls := "FaxRows$Writer", name := "writeRuns", desc := "(I)V" } : Jvm.MethodName)) ∈ wT := wk (lwt_3 (List.mem_of_getElem? (i := 234) (by decide +kernel))) rfl
set_option maxRecDepth 20000 in
theorem k761 : (Jvm.Cond.instanceMethod ({ cls := "FaxRows$Writer", name := "writeRuns", desc := "(I)V" } : Jvm.MethodName)) ∈ wT := wk (lwt_3 (List.mem_of_getElem? (i := 236) (by decide +kernel))) rfl
set_option maxRecDepth 20000 in
theorem k762 : (Jvm.Cond.code ({ cls := "FaxRows$Writer", name := "writeRuns", desc := "(I)V" } : Jvm.MethodName) prog_8_method_5_code (6 : Nat) (Option.none : Option Jvm.ClassFile.FieldType)) ∈ wT := wk (lwt_3 (List.mem_of_getElem? (i := 237) rfl)) rfl
set_option maxRecDepth 20000 in
theorem k763 : (Jvm.Cond.methodLink "FaxRows$Writer" (64 : Nat) ({ cls := "FaxRows$Lists", name := "length", desc := "(I)I" } : Jvm.MethodName)) ∈ wT := wk (lwt_3 (List.mem_of_getElem? (i := 238) (by decide +kernel))) rfl
set_option maxRecDepth 20000 in
theorem k764 : (Jvm.Cond.methodLink "FaxRows$Writer" (55 : Nat) ({ cls := "java/lang/Math", name := "max", desc := "(II)I" } : Jvm.MethodName)) ∈ wT := wk (lwt_3 (List.mem_of_getElem? (i := 239) (by decide +kernel))) rfl
set_option maxRecDepth 20000 in
theorem k765 : (Jvm.Cond.methodLink "FaxRows$Writer" (61 : Nat) ({ cls := "FaxRows$Bits", name := "addZeros", desc := "(I)V" } : Jvm.MethodName)) ∈ wT := wk (lwt_4 (List.mem_of_getElem? (i := 0) (by decide +kernel))) rfl
set_option maxRecDepth 20000 in
theorem k766 : (Jvm.Cond.instanceMethod ({ cls := "FaxRows$Bits", name := "addZeros", desc := "(I)V" } : Jvm.MethodName)) ∈ wT := wk (lwt_4 (List.mem_of_getElem? (i := 1) (by decide +kernel))) rfl
set_option maxRecDepth 20000 in
theorem k767 : (Jvm.Cond.selects "FaxRows$Bits" ({ cls := "FaxRows$Bits", name := "addZeros", desc := "(I)V" } : Jvm.MethodName) ({ cls := "FaxRows$Bits", name := "addZeros", desc := "(I)V" } : Jvm.MethodName)) ∈ wT := wk (lwt_4 (List.mem_of_getElem? (i := 2) (by decide +kernel))) rfl
set_option maxRecDepth 20000 in
theorem k768 : (Jvm.Cond.code ({ cls := "FaxRows$Bits", name := "addZeros", desc := "(I)V" } : Jvm.MethodName) prog_2_method_8_code (2 : Nat) (Option.none : Option Jvm.ClassFile.FieldType)) ∈ wT := wk (lwt_4 (List.mem_of_getElem? (i := 3) rfl)) rfl
set_option maxRecDepth 20000 in
theorem k769 : (Jvm.Cond.methodLink "FaxRows" (100 : Nat) ({ cls := "FaxRows$Bits", name := "fillLastByte", desc := "()V" } : Jvm.MethodName)) ∈ wT := wk (lwt_4 (List.mem_of_getElem? (i := 4) (by decide +kernel))) rfl
set_option maxRecDepth 20000 in
theorem k770 : (Jvm.Cond.instanceMethod ({ cls := "FaxRows$Bits", name := "fillLastByte", desc := "()V" } : Jvm.MethodName)) ∈ wT := wk (lwt_4 (List.mem_of_getElem? (i := 5) (by decide +kernel))) rfl
set_option maxRecDepth 20000 in
theorem k771 : (Jvm.Cond.selects "FaxRows$Bits" ({ cls := "FaxRows$Bits", name := "fillLastByte", desc := "()V" } : Jvm.MethodName) ({ cls := "FaxRows$Bits", name := "fillLastByte", desc := "()V" } : Jvm.MethodName)) ∈ wT := wk (lwt_4 (List.mem_of_getElem? (i := 6) (by decide +kernel))) rfl
set_option maxRecDepth 20000 in
theorem k772 : (Jvm.Cond.code ({ cls := "FaxRows$Bits", name := "fillLastByte", desc := "()V" } : Jvm.MethodName) prog_2_method_10_code (1 : Nat) (Option.none : Option Jvm.ClassFile.FieldType)) ∈ wT := wk (lwt_4 (List.mem_of_getElem? (i := 7) rfl)) rfl
set_option maxRecDepth 20000 in
theorem k773 : (Jvm.Cond.methodLink "FaxRows" (103 : Nat) ({ cls := "FaxRows$Bits", name := "byteCount", desc := "()I" } : Jvm.MethodName)) ∈ wT := wk (lwt_4 (List.mem_of_getElem? (i := 8) (by decide +kernel))) rfl
set_option maxRecDepth 20000 in
theorem k774 : (Jvm.Cond.methodLink "FaxRowsLaw" (42 : Nat) ({ cls := "FaxRows", name := "byteAt", desc := "(I)I" } : Jvm.MethodName)) ∈ wT := wk (lwt_4 (List.mem_of_getElem? (i := 9) (by decide +kernel))) rfl
set_option maxRecDepth 20000 in
theorem k775 : (Jvm.Cond.instanceMethod ({ cls := "FaxRows", name := "byteAt", desc := "(I)I" } : Jvm.MethodName)) ∈ wT := wk (lwt_4 (List.mem_of_getElem? (i := 10) (by decide +kernel))) rfl
set_option maxRecDepth 20000 in
theorem k776 : (Jvm.Cond.selects "FaxRows" ({ cls := "FaxRows", name := "byteAt", desc := "(I)I" } : Jvm.MethodName) ({ cls := "FaxRows", name := "byteAt", desc := "(I)I" } : Jvm.MethodName)) ∈ wT := wk (lwt_4 (List.mem_of_getElem? (i := 11) (by decide +kernel))) rfl
set_option maxRecDepth 20000 in
theorem k777 : (Jvm.Cond.code ({ cls := "FaxRows", name := "byteAt", desc := "(I)I" } : Jvm.MethodName) prog_1_method_5_code (2 : Nat) (Option.some Jvm.ClassFile.FieldType.int)) ∈ wT := wk (lwt_4 (List.mem_of_getElem? (i := 12) rfl)) rfl
set_option maxRecDepth 20000 in
theorem k778 : (Jvm.Cond.methodLink "FaxRows" (106 : Nat) ({ cls := "FaxRows$Bits", name := "byteOf", desc := "(I)I" } : Jvm.MethodName)) ∈ wT := wk (lwt_4 (List.mem_of_getElem? (i := 13) (by decide +kernel))) rfl
set_option maxRecDepth 20000 in
theorem k779 : (Jvm.Cond.instanceMethod ({ cls := "FaxRows$Bits", name := "byteOf", desc := "(I)I" } : Jvm.MethodName)) ∈ wT := wk (lwt_4 (List.mem_of_getElem? (i := 14) (by decide +kernel))) rfl
set_option maxRecDepth 20000 in
theorem k780 : (Jvm.Cond.selects "FaxRows$Bits" ({ cls := "FaxRows$Bits", name := "byteOf", desc := "(I)I" } : Jvm.MethodName) ({ cls := "FaxRows$Bits", name := "byteOf", desc := "(I)I" } : Jvm.MethodName)) ∈ wT := wk (lwt_4 (List.mem_of_getElem? (i := 15) (by decide +kernel))) rfl
set_option maxRecDepth 20000 in
theorem k781 : (Jvm.Cond.code ({ cls := "FaxRows$Bits", name := "byteOf", desc := "(I)I" } : Jvm.MethodName) prog_2_method_6_code (2 : Nat) (Option.some Jvm.ClassFile.FieldType.int)) ∈ wT := wk (lwt_4 (List.mem_of_getElem? (i := 16) rfl)) rfl
set_option maxRecDepth 20000 in
theorem k782 : (Jvm.Cond.methodLink "FaxRowsLaw" (47 : Nat) ({ cls := "FaxRows", name := "feed", desc := "(I)Z" } : Jvm.MethodName)) ∈ wT := wk (lwt_4 (List.mem_of_getElem? (i := 17) (by decide +kernel))) rfl
set_option maxRecDepth 20000 in
theorem k783 : (Jvm.Cond.instanceMethod ({ cls := "FaxRows", name := "feed", desc := "(I)Z" } : Jvm.MethodName)) ∈ wT := wk (lwt_4 (List.mem_of_getElem? (i := 18) (by decide +kernel))) rfl
set_option maxRecDepth 20000 in
theorem k784 : (Jvm.Cond.selects "FaxRows" ({ cls := "FaxRows", name := "feed", desc := "(I)Z" } : Jvm.MethodName) ({ cls := "FaxRows", name := "feed", desc := "(I)Z" } : Jvm.MethodName)) ∈ wT := wk (lwt_4 (List.mem_of_getElem? (i := 19) (by decide +kernel))) rfl
set_option maxRecDepth 20000 in
theorem k785 : (Jvm.Cond.code ({ cls := "FaxRows", name := "feed", desc := "(I)Z" } : Jvm.MethodName) prog_1_method_6_code (2 : Nat) (Option.some Jvm.ClassFile.FieldType.boolean)) ∈ wT := wk (lwt_4 (List.mem_of_getElem? (i := 20) rfl)) rfl
set_option maxRecDepth 20000 in
theorem k786 : (Jvm.Cond.methodLink "FaxRows" (110 : Nat) ({ cls := "FaxRows$Bits", name := "addByte", desc := "(I)V" } : Jvm.MethodName)) ∈ wT := wk (lwt_4 (List.mem_of_getElem? (i := 21) (by decide +kernel))) rfl
set_option maxRecDepth 20000 in
theorem k787 : (Jvm.Cond.instanceMethod ({ cls := "FaxRows$Bits", name := "addByte", desc := "(I)V" } : Jvm.MethodName)) ∈ wT := wk (lwt_4 (List.mem_of_getElem? (i := 22) (by decide +kernel))) rfl
set_option maxRecDepth 20000 in
theorem k788 : (Jvm.Cond.selects "FaxRows$Bits" ({ cls := "FaxRows$Bits", name := "addByte", desc := "(I)V" } : Jvm.MethodName) ({ cls := "FaxRows$Bits", name := "addByte", desc := "(I)V" } : Jvm.MethodName)) ∈ wT := wk (lwt_4 (List.mem_of_getElem? (i := 23) (by decide +kernel))) rfl
set_option maxRecDepth 20000 in
theorem k789 : (Jvm.Cond.code ({ cls := "FaxRows$Bits", name := "addByte", desc := "(I)V" } : Jvm.MethodName) prog_2_method_7_code (2 : Nat) (Option.none : Option Jvm.ClassFile.FieldType)) ∈ wT := wk (lwt_4 (List.mem_of_getElem? (i := 24) rfl)) rfl
set_option maxRecDepth 20000 in
theorem k790 : (Jvm.Cond.methodLink "FaxRowsLaw" (52 : Nat) ({ cls := "FaxRows", name := "decode", desc := "()I" } : Jvm.MethodName)) ∈ wT := wk (lwt_4 (List.mem_of_getElem? (i := 25) (by decide +kernel))) rfl
set_option maxRecDepth 20000 in
theorem k791 : (Jvm.Cond.instanceMethod ({ cls := "FaxRows", name := "decode", desc := "()I" } : Jvm.MethodName)) ∈ wT := wk (lwt_4 (List.mem_of_getElem? (i := 26) (by decide +kernel))) rfl
set_option maxRecDepth 20000 in
theorem k792 : (Jvm.Cond.selects "FaxRows" ({ cls := "FaxRows", name := "decode", desc := "()I" } : Jvm.MethodName) ({ cls := "FaxRows", name := "decode", desc := "()I" } : Jvm.MethodName)) ∈ wT := wk (lwt_4 (List.mem_of_getElem? (i := 27) (by decide +kernel))) rfl
set_option maxRecDepth 20000 in
theorem k793 : (Jvm.Cond.code ({ cls := "FaxRows", name := "decode", desc := "()I" } : Jvm.MethodName) prog_1_method_7_code (3 : Nat) (Option.some Jvm.ClassFile.FieldType.int)) ∈ wT := wk (lwt_4 (List.mem_of_getElem? (i := 28) rfl)) rfl
set_option maxRecDepth 20000 in
theorem k794 : (Jvm.Cond.methodLink "FaxRows" (113 : Nat) ({ cls := "FaxRows$Reader", name := "begin", desc := "(LFaxRows$Bits;)V" } : Jvm.MethodName)) ∈ wT := wk (lwt_4 (List.mem_of_getElem? (i := 29) (by decide +kernel))) rfl
set_option maxRecDepth 20000 in
theorem k795 : (Jvm.Cond.instanceMethod ({ cls := "FaxRows$Reader", name := "begin", desc := "(LFaxRows$Bits;)V" } : Jvm.MethodName)) ∈ wT := wk (lwt_4 (List.mem_of_getElem? (i := 30) (by decide +kernel))) rfl
set_option maxRecDepth 20000 in
theorem k796 : (Jvm.Cond.selects "FaxRows$Reader" ({ cls := "FaxRows$Reader", name := "begin", desc := "(LFaxRows$Bits;)V" } : Jvm.MethodName) ({ cls := "FaxRows$Reader", name := "begin", desc := "(LFaxRows$Bits;)V" } : Jvm.MethodName)) ∈ wT := wk (lwt_4 (List.mem_of_getElem? (i := 31) (by decide +kernel))) rfl
set_option maxRecDepth 20000 in
theorem k797 : (Jvm.Cond.code ({ cls := "FaxRows$Reader", name := "begin", desc := "(LFaxRows$Bits;)V" } : Jvm.MethodName) prog_5_method_2_code (2 : Nat) (Option.none : Option Jvm.ClassFile.FieldType)) ∈ wT := wk (lwt_4 (List.mem_of_getElem? (i := 32) rfl)) rfl
set_option maxRecDepth 20000 in
theorem k798 : (Jvm.Cond.methodLink "FaxRows$Reader" (72 : Nat) ({ cls := "FaxRows$Reader", name := "forget", desc := "()V" } : Jvm.MethodName)) ∈ wT := wk (lwt_4 (List.mem_of_getElem? (i := 33) (by decide +kernel))) rfl
set_option maxRecDepth 20000 in
theorem k799 : (Jvm.Cond.instanceMethod ({ cls := "FaxRows$Reader", name := "forget", desc := "()V" } : Jvm.MethodName)) ∈ wT := wk (lwt_4 (List.mem_of_getElem? (i := 34) (by decide +kernel))) rfl
set_option maxRecDepth 20000 in
theorem k800 : (Jvm.Cond.selects "FaxRows$Reader" ({ cls := "FaxRows$Reader", name := "forget", desc := "()V" } : Jvm.MethodName) ({ cls := "FaxRows$Reader", name := "forget", desc := "()V" } : Jvm.MethodName)) ∈ wT := wk (lwt_4 (List.mem_of_getElem? (i := 35) (by decide +kernel))) rfl
set_option maxRecDepth 20000 in
theorem k801 : (Jvm.Cond.code ({ cls := "FaxRows$Reader", name := "forget", desc := "()V" } : Jvm.MethodName) prog_5_method_3_code (1 : Nat) (Option.none : Option Jvm.ClassFile.FieldType)) ∈ wT := wk (lwt_4 (List.mem_of_getElem? (i := 36) rfl)) rfl
set_option maxRecDepth 20000 in
theorem k802 : (Jvm.Cond.methodLink "FaxRows$Reader" (80 : Nat) ({ cls := "FaxRows$Lists", name := "removeAll", desc := "()V" } : Jvm.MethodName)) ∈ wT := wk (lwt_4 (List.mem_of_getElem? (i := 37) (by decide +kernel))) rfl
set_option maxRecDepth 20000 in
theorem k803 : (Jvm.Cond.instanceMethod ({ cls := "FaxRows$Lists", name := "removeAll", desc := "()V" } : Jvm.MethodName)) ∈ wT := wk (lwt_4 (List.mem_of_getElem? (i := 38) (by decide +kernel))) rfl
set_option maxRecDepth 20000 in
theorem k804 : (Jvm.Cond.selects "FaxRows$Lists" ({ cls := "FaxRows$Lists", name := "removeAll", desc := "()V" } : Jvm.MethodName) ({ cls := "FaxRows$Lists", name := "removeAll", desc := "()V" } : Jvm.MethodName)) ∈ wT := wk (lwt_4 (List.mem_of_getElem? (i := 39) (by decide +kernel))) rfl
set_option maxRecDepth 20000 in
theorem k805 : (Jvm.Cond.code ({ cls := "FaxRows$Lists", name := "removeAll", desc := "()V" } : Jvm.MethodName) prog_4_method_2_code (1 : Nat) (Option.none : Option Jvm.ClassFile.FieldType)) ∈ wT := wk (lwt_4 (List.mem_of_getElem? (i := 40) rfl)) rfl
set_option maxRecDepth 20000 in
theorem k806 : (Jvm.Cond.methodLink "FaxRows$Reader" (75 : Nat) ({ cls := "FaxRows$Bits", name := "beginReading", desc := "()V" } : Jvm.MethodName)) ∈ wT := wk (lwt_4 (List.mem_of_getElem? (i := 41) (by decide +kernel))) rfl
set_option maxRecDepth 20000 in
theorem k807 : (Jvm.Cond.instanceMethod ({ cls := "FaxRows$Bits", name := "beginReading", desc := "()V" } : Jvm.MethodName)) ∈ wT := wk (lwt_4 (List.mem_of_getElem? (i := 42) (by decide +kernel))) rfl
set_option maxRecDepth 20000 in
theorem k808 : (Jvm.Cond.selects "FaxRows$Bits" ({ cls := "FaxRows$Bits", name := "beginReading", desc := "()V" } : Jvm.MethodName) ({ cls := "FaxRows$Bits", name := "beginReading", desc := "()V" } : Jvm.MethodName)) ∈ wT := wk (lwt_4 (List.mem_of_getElem? (i := 43) (by decide +kernel))) rfl
set_option maxRecDepth 20000 in
theorem k809 : (Jvm.Cond.code ({ cls := "FaxRows$Bits", name := "beginReading", desc := "()V" } : Jvm.MethodName) prog_2_method_11_code (1 : Nat) (Option.none : Option Jvm.ClassFile.FieldType)) ∈ wT := wk (lwt_4 (List.mem_of_getElem? (i := 44) rfl)) rfl
set_option maxRecDepth 20000 in
theorem k810 : (Jvm.Cond.methodLink "FaxRows" (117 : Nat) ({ cls := "FaxRows$Reader", name := "readUnmarked", desc := "()I" } : Jvm.MethodName)) ∈ wT := wk (lwt_4 (List.mem_of_getElem? (i := 45) (by decide +kernel))) rfl
set_option maxRecDepth 20000 in
theorem k811 : (Jvm.Cond.instanceMethod ({ cls := "FaxRows$Reader", name := "readUnmarked", desc := "()I" } : Jvm.MethodName)) ∈ wT := wk (lwt_4 (List.mem_of_getElem? (i := 46) (by decide +kernel))) rfl
set_option maxRecDepth 20000 in
theorem k812 : (Jvm.Cond.selects "FaxRows$Reader" ({ cls := "FaxRows$Reader", name := "readUnmarked", desc := "()I" } : Jvm.MethodName) ({ cls := "FaxRows$Reader", name := "readUnmarked", desc := "()I" } : Jvm.MethodName)) ∈ wT := wk (lwt_4 (List.mem_of_getElem? (i := 47) (by decide +kernel))) rfl
set_option maxRecDepth 20000 in
theorem k813 : (Jvm.Cond.code ({ cls := "FaxRows$Reader", name := "readUnmarked", desc := "()I" } : Jvm.MethodName) prog_5_method_10_code (3 : Nat) (Option.some Jvm.ClassFile.FieldType.int)) ∈ wT := wk (lwt_4 (List.mem_of_getElem? (i := 48) rfl)) rfl
set_option maxRecDepth 20000 in
theorem k814 : (Jvm.Cond.methodLink "FaxRows$Reader" (116 : Nat) ({ cls := "FaxRows$Reader", name := "readModes", desc := "()I" } : Jvm.MethodName)) ∈ wT := wk (lwt_4 (List.mem_of_getElem? (i := 49) (by decide +kernel))) rfl
set_option maxRecDepth 20000 in
theorem k816 : (Jvm.Cond.instanceMethod ({ cls := "FaxRows$Reader", name := "readModes", desc := "()I" } : Jvm.MethodName)) ∈ wT := wk (lwt_4 (List.mem_of_getElem? (i := 51) (by decide +kernel))) rfl
set_option maxRecDepth 20000 in
theorem k817 : (Jvm.Cond.code ({ cls := "FaxRows$Reader", name := "readModes", desc := "()I" } : Jvm.MethodName) prog_5_method_13_code (3 : Nat) (Option.some Jvm.ClassFile.FieldType.int)) ∈ wT := wk (lwt_4 (List.mem_of_getElem? (i := 52) rfl)) rfl
set_option maxRecDepth 20000 in
theorem k818 : (Jvm.Cond.methodLink "FaxRows$Reader" (123 : Nat) ({ cls := "FaxRows$Lists", name := "count", desc := "()I" } : Jvm.MethodName)) ∈ wT := wk (lwt_4 (List.mem_of_getElem? (i := 53) (by decide +kernel))) rfl
set_option maxRecDepth 20000 in
theorem k819 : (Jvm.Cond.methodLink "FaxRows$Reader" (142 : Nat) ({ cls := "FaxRows$Told", name := "begin", desc := "(I)V" } : Jvm.MethodName)) ∈ wT := wk (lwt_4 (List.mem_of_getElem? (i := 54) (by decide +kernel))) rfl
set_option maxRecDepth 20000 in
theorem k820 : (Jvm.Cond.methodLink "FaxRows$Reader" (99 : Nat) ({ cls := "FaxRows$Bits", name := "left", desc := "()I" } : Jvm.MethodName)) ∈ wT := wk (lwt_4 (List.mem_of_getElem? (i := 55) (by decide +kernel))) rfl
set_option maxRecDepth 20000 in
theorem k821 : (Jvm.Cond.instanceMethod ({ cls := "FaxRows$Bits", name := "left", desc := "()I" } : Jvm.MethodName)) ∈ wT := wk (lwt_4 (List.mem_of_getElem? (i := 56) (by decide +kernel))) rfl
set_option maxRecDepth 20000 in
theorem k822 : (Jvm.Cond.selects "FaxRows$Bits" ({ cls := "FaxRows$Bits", name := "left", desc := "()I" } : Jvm.MethodName) ({ cls := "FaxRows$Bits", name := "left", desc := "()I" } : Jvm.MethodName)) ∈ wT := wk (lwt_4 (List.mem_of_getElem? (i := 57) (by decide +kernel))) rfl
set_option maxRecDepth 20000 in
theorem k823 : (Jvm.Cond.code ({ cls := "FaxRows$Bits", name := "left", desc := "()I" } : Jvm.MethodName) prog_2_method_12_code (1 : Nat) (Option.some Jvm.ClassFile.FieldType.int)) ∈ wT := wk (lwt_4 (List.mem_of_getElem? (i := 58) rfl)) rfl
set_option maxRecDepth 20000 in
theorem k824 : (Jvm.Cond.methodLink "FaxRows$Reader" (145 : Nat) ({ cls := "FaxRows$Told", name := "isWhole", desc := "()Z" } : Jvm.MethodName)) ∈ wT := wk (lwt_4 (List.mem_of_getElem? (i := 59) (by decide +kernel))) rfl
set_option maxRecDepth 20000 in
theorem k825 : (Jvm.Cond.methodLink "FaxRows$Reader" (148 : Nat) ({ cls := "FaxRows$CodeTree", name := "read", desc := "(LFaxRows$Bits;)I" } : Jvm.MethodName)) ∈ wT := wk (lwt_4 (List.mem_of_getElem? (i := 60) (by decide +kernel))) rfl
set_option maxRecDepth 20000 in
theorem k826 : (Jvm.Cond.instanceMethod ({ cls := "FaxRows$CodeTree", name := "read", desc := "(LFaxRows$Bits;)I" } : Jvm.MethodName)) ∈ wT := wk (lwt_4 (List.mem_of_getElem? (i := 61) (by decide +kernel))) rfl
set_option maxRecDepth 20000 in
theorem k827 : (Jvm.Cond.selects "FaxRows$CodeTree" ({ cls := "FaxRows$CodeTree", name := "read", desc := "(LFaxRows$Bits;)I" } : Jvm.MethodName) ({ cls := "FaxRows$CodeTree", name := "read", desc := "(LFaxRows$Bits;)I" } : Jvm.MethodName)) ∈ wT := wk (lwt_4 (List.mem_of_getElem? (i := 62) (by decide +kernel))) rfl
set_option maxRecDepth 20000 in
theorem k828 : (Jvm.Cond.code ({ cls := "FaxRows$CodeTree", name := "read", desc := "(LFaxRows$Bits;)I" } : Jvm.MethodName) prog_3_method_7_code (5 : Nat) (Option.some Jvm.ClassFile.FieldType.int)) ∈ wT := wk (lwt_4 (List.mem_of_getElem? (i := 63) rfl)) rfl
set_option maxRecDepth 20000 in
theorem k829 : (Jvm.Cond.methodLink "FaxRows$CodeTree" (44 : Nat) ({ cls := "FaxRows$Bits", name := "left", desc := "()I" } : Jvm.MethodName)) ∈ wT := wk (lwt_4 (List.mem_of_getElem? (i := 64) (by decide +kernel))) rfl
set_option maxRecDepth 20000 in
theorem k830 : (Jvm.Cond.methodLink "FaxRows$CodeTree" (50 : Nat) ({ cls := "FaxRows$Bits", name := "isOne", desc := "(I)Z" } : Jvm.MethodName)) ∈ wT := wk (lwt_4 (List.mem_of_getElem? (i := 65) (by decide +kernel))) rfl
set_option maxRecDepth 20000 in
theorem k831 : (Jvm.Cond.instanceMethod ({ cls := "FaxRows$Bits", name := "isOne", desc := "(I)Z" } : Jvm.MethodName)) ∈ wT := wk (lwt_4 (List.mem_of_getElem? (i := 66) (by decide +kernel))) rfl
set_option maxRecDepth 20000 in
theorem k832 : (Jvm.Cond.selects "FaxRows$Bits" ({ cls := "FaxRows$Bits", name := "isOne", desc := "(I)Z" } : Jvm.MethodName) ({ cls := "FaxRows$Bits", name := "isOne", desc := "(I)Z" } : Jvm.MethodName)) ∈ wT := wk (lwt_4 (List.mem_of_getElem? (i := 67) (by decide +kernel))) rfl
set_option maxRecDepth 20000 in
theorem k833 : (Jvm.Cond.code ({ cls := "FaxRows$Bits", name := "isOne", desc := "(I)Z" } : Jvm.MethodName) prog_2_method_13_code (3 : Nat) (Option.some Jvm.ClassFile.FieldType.boolean)) ∈ wT := wk (lwt_4 (List.mem_of_getElem? (i := 68) rfl)) rfl
set_option maxRecDepth 20000 in
theorem k834 : (Jvm.Cond.methodLink "FaxRows$CodeTree" (54 : Nat) ({ cls := "FaxRows$Bits", name := "skip", desc := "(I)V" } : Jvm.MethodName)) ∈ wT := wk (lwt_4 (List.mem_of_getElem? (i := 69) (by decide +kernel))) rfl
set_option maxRecDepth 20000 in
theorem k835 : (Jvm.Cond.instanceMethod ({ cls := "FaxRows$Bits", name := "skip", desc := "(I)V" } : Jvm.MethodName)) ∈ wT := wk (lwt_4 (List.mem_of_getElem? (i := 70) (by decide +kernel))) rfl
set_option maxRecDepth 20000 in
theorem k836 : (Jvm.Cond.selects "FaxRows$Bits" ({ cls := "FaxRows$Bits", name := "skip", desc := "(I)V" } : Jvm.MethodName) ({ cls := "FaxRows$Bits", name := "skip", desc := "(I)V" } : Jvm.MethodName)) ∈ wT := wk (lwt_4 (List.mem_of_getElem? (i := 71) (by decide +kernel))) rfl
set_option maxRecDepth 20000 in
theorem k837 : (Jvm.Cond.code ({ cls := "FaxRows$Bits", name := "skip", desc := "(I)V" } : Jvm.MethodName) prog_2_method_14_code (2 : Nat) (Option.none : Option Jvm.ClassFile.FieldType)) ∈ wT := wk (lwt_4 (List.mem_of_getElem? (i := 72) rfl)) rfl
set_option maxRecDepth 20000 in
theorem k838 : (Jvm.Cond.methodLink "FaxRows$Reader" (152 : Nat) ({ cls := "FaxRows$Reader", name := "readHorizontal", desc := "()Z" } : Jvm.MethodName)) ∈ wT := wk (lwt_4 (List.mem_of_getElem? (i := 73) (by decide +kernel))) rfl
set_option maxRecDepth 20000 in
theorem k840 : (Jvm.Cond.instanceMethod ({ cls := "FaxRows$Reader", name := "readHorizontal", desc := "()Z" } : Jvm.MethodName)) ∈ wT := wk (lwt_4 (List.mem_of_getElem? (i := 75) (by decide +kernel))) rfl
set_option maxRecDepth 20000 in
theorem k841 : (Jvm.Cond.code ({ cls := "FaxRows$Reader", name := "readHorizontal", desc := "()Z" } : Jvm.MethodName) prog_5_method_15_code (4 : Nat) (Option.some Jvm.ClassFile.FieldType.boolean)) ∈ wT := wk (lwt_4 (List.mem_of_getElem? (i := 76) rfl)) rfl
set_option maxRecDepth 20000 in
theorem k842 : (Jvm.Cond.methodLink "FaxRows$Reader" (174 : Nat) ({ cls := "FaxRows$Told", name := "runStart", desc := "()I" } : Jvm.MethodName)) ∈ wT := wk (lwt_4 (List.mem_of_getElem? (i := 77) (by decide +kernel))) rfl
set_option maxRecDepth 20000 in
theorem k843 : (Jvm.Cond.methodLink "FaxRows$Reader" (177 : Nat) ({ cls := "FaxRows$Told", name := "isBlack", desc := "()Z" } : Jvm.MethodName)) ∈ wT := wk (lwt_4 (List.mem_of_getElem? (i := 78) (by decide +kernel))) rfl
set_option maxRecDepth 20000 in
theorem k844 : (Jvm.Cond.methodLink "FaxRows$Reader" (135 : Nat) ({ cls := "FaxRows$Reader", name := "readRun", desc := "(Z)I" } : Jvm.MethodName)) ∈ wT := wk (lwt_4 (List.mem_of_getElem? (i := 79) (by decide +kernel))) rfl
set_option maxRecDepth 20000 in
theorem k846 : (Jvm.Cond.instanceMethod ({ cls := "FaxRows$Reader", name := "readRun", desc := "(Z)I" } : Jvm.MethodName)) ∈ wT := wk (lwt_4 (List.mem_of_getElem? (i := 81) (by decide +kernel))) rfl
set_option maxRecDepth 20000 in
theorem k847 : (Jvm.Cond.code ({ cls := "FaxRows$Reader", name := "readRun", desc := "(Z)I" } : Jvm.MethodName) prog_5_method_17_code (6 : Nat) (Option.some Jvm.ClassFile.FieldType.int)) ∈ wT := wk (lwt_4 (List.mem_of_getElem? (i := 82) rfl)) rfl
set_option maxRecDepth 20000 in
theorem k848 : (Jvm.Cond.methodLink "FaxRows$Reader" (139 : Nat) ({ cls := "FaxRows$Reader", name := "turnAt", desc := "(I)V" } : Jvm.MethodName)) ∈ wT := wk (lwt_4 (List.mem_of_getElem? (i := 83) (by decide +kernel))) rfl
set_option maxRecDepth 20000 in
theorem k850 : (Jvm.Cond.instanceMethod ({ cls := "FaxRows$Reader", name := "turnAt", desc := "(I)V" } : Jvm.MethodName)) ∈ wT := wk (lwt_4 (List.mem_of_getElem? (i := 85) (by decide +kernel))) rfl
set_option maxRecDepth 20000 in
theorem k851 : (Jvm.Cond.code ({ cls := "FaxRows$Reader", name := "turnAt", desc := "(I)V" } : Jvm.MethodName) prog_5_method_16_code (2 : Nat) (Option.none : Option Jvm.ClassFile.FieldType)) ∈ wT := wk (lwt_4 (List.mem_of_getElem? (i := 86) rfl)) rfl
set_option maxRecDepth 20000 in
theorem k852 : (Jvm.Cond.methodLink "FaxRows$Reader" (180 : Nat) ({ cls := "FaxRows$Lists", name := "last", desc := "()I" } : Jvm.MethodName)) ∈ wT := wk (lwt_4 (List.mem_of_getElem? (i := 87) (by decide +kernel))) rfl
set_option maxRecDepth 20000 in
theorem k853 : (Jvm.Cond.instanceMethod ({ cls := "FaxRows$Lists", name := "last", desc := "()I" } : Jvm.MethodName)) ∈ wT := wk (lwt_4 (List.mem_of_getElem? (i := 88) (by decide +kernel))) rfl
set_option maxRecDepth 20000 in
theorem k854 : (Jvm.Cond.selects "FaxRows$Lists" ({ cls := "FaxRows$Lists", name := "last", desc := "()I" } : Jvm.MethodName) ({ cls := "FaxRows$Lists", name := "last", desc := "()I" } : Jvm.MethodName)) ∈ wT := wk (lwt_4 (List.mem_of_getElem? (i := 89) (by decide +kernel))) rfl
set_option maxRecDepth 20000 in
theorem k855 : (Jvm.Cond.code ({ cls := "FaxRows$Lists", name := "last", desc := "()I" } : Jvm.MethodName) prog_4_method_8_code (1 : Nat) (Option.some Jvm.ClassFile.FieldType.int)) ∈ wT := wk (lwt_4 (List.mem_of_getElem? (i := 90) rfl)) rfl
set_option maxRecDepth 20000 in
theorem k856 : (Jvm.Cond.methodLink "FaxRows$Lists" (28 : Nat) ({ cls := "FaxRows$Lists", name := "item", desc := "(III)I" } : Jvm.MethodName)) ∈ wT := wk (lwt_4 (List.mem_of_getElem? (i := 91) (by decide +kernel))) rfl
set_option maxRecDepth 20000 in
theorem k857 : (Jvm.Cond.methodLink "FaxRows$Reader" (183 : Nat) ({ cls := "FaxRows$Lists", name := "dropLast", desc := "()V" } : Jvm.MethodName)) ∈ wT := wk (lwt_4 (List.mem_of_getElem? (i := 92) (by decide +kernel))) rfl
set_option maxRecDepth 20000 in
theorem k858 : (Jvm.Cond.instanceMethod ({ cls := "FaxRows$Lists", name := "dropLast", desc := "()V" } : Jvm.MethodName)) ∈ wT := wk (lwt_4 (List.mem_of_getElem? (i := 93) (by decide +kernel))) rfl
set_option maxRecDepth 20000 in
theorem k859 : (Jvm.Cond.selects "FaxRows$Lists" ({ cls := "FaxRows$Lists", name := "dropLast", desc := "()V" } : Jvm.MethodName) ({ cls := "FaxRows$Lists", name := "dropLast", desc := "()V" } : Jvm.MethodName)) ∈ wT := wk (lwt_4 (List.mem_of_getElem? (i := 94) (by decide +kernel))) rfl
set_option maxRecDepth 20000 in
theorem k860 : (Jvm.Cond.code ({ cls := "FaxRows$Lists", name := "dropLast", desc := "()V" } : Jvm.MethodName) prog_4_method_9_code (1 : Nat) (Option.none : Option Jvm.ClassFile.FieldType)) ∈ wT := wk (lwt_4 (List.mem_of_getElem? (i := 95) rfl)) rfl
set_option maxRecDepth 20000 in
theorem k861 : (Jvm.Cond.methodLink "FaxRows$Lists" (32 : Nat) ({ cls := "FaxRows$Lists", name := "length", desc := "(I)I" } : Jvm.MethodName)) ∈ wT := wk (lwt_4 (List.mem_of_getElem? (i := 96) (by decide +kernel))) rfl
set_option maxRecDepth 20000 in
theorem k862 : (Jvm.Cond.methodLink "FaxRows$Reader" (164 : Nat) ({ cls := "FaxRows$Lists", name := "append", desc := "(I)V" } : Jvm.MethodName)) ∈ wT := wk (lwt_4 (List.mem_of_getElem? (i := 97) (by decide +kernel))) rfl
set_option maxRecDepth 20000 in
theorem k863 : (Jvm.Cond.methodLink "FaxRows$Reader" (161 : Nat) ({ cls := "FaxRows$Told", name := "moveTo", desc := "(I)V" } : Jvm.MethodName)) ∈ wT := wk (lwt_4 (List.mem_of_getElem? (i := 98) (by decide +kernel))) rfl
set_option maxRecDepth 20000 in
theorem k864 : (Jvm.Cond.methodLink "FaxRows$Reader" (155 : Nat) ({ cls := "FaxRows$Reader", name := "turnBesideB1", desc := "(I)Z" } : Jvm.MethodName)) ∈ wT := wk (lwt_4 (List.mem_of_getElem? (i := 99) (by decide +kernel))) rfl
set_option maxRecDepth 20000 in
theorem k866 : (Jvm.Cond.instanceMethod ({ cls := "FaxRows$Reader", name := "turnBesideB1", desc := "(I)Z" } : Jvm.MethodName)) ∈ wT := wk (lwt_4 (List.mem_of_getElem? (i := 101) (by decide +kernel))) rfl
set_option maxRecDepth 20000 in
theorem k867 : (Jvm.Cond.code ({ cls := "FaxRows$Reader", name := "turnBesideB1", desc := "(I)Z" } : Jvm.MethodName) prog_5_method_14_code (3 : Nat) (Option.some Jvm.ClassFile.FieldType.boolean)) ∈ wT := wk (lwt_4 (List.mem_of_getElem? (i := 102) rfl)) rfl
set_option maxRecDepth 20000 in
theorem k868 : (Jvm.Cond.methodLink "FaxRows$Reader" (167 : Nat) ({ cls := "FaxRows$Told", name := "b1", desc := "()I" } : Jvm.MethodName)) ∈ wT := wk (lwt_4 (List.mem_of_getElem? (i := 103) (by decide +kernel))) rfl
set_option maxRecDepth 20000 in
theorem k869 : (Jvm.Cond.methodLink "FaxRows$Reader" (170 : Nat) ({ cls := "FaxRows$Told", name := "a0", desc := "()I" } : Jvm.MethodName)) ∈ wT := wk (lwt_4 (List.mem_of_getElem? (i := 104) (by decide +kernel))) rfl
set_option maxRecDepth 20000 in
theorem k870 : (Jvm.Cond.instanceMethod ({ cls := "FaxRows$Told", name := "a0", desc := "()I" } : Jvm.MethodName)) ∈ wT := wk (lwt_4 (List.mem_of_getElem? (i := 105) (by decide +kernel))) rfl
set_option maxRecDepth 20000 in
theorem k871 : (Jvm.Cond.selects "FaxRows$Told" ({ cls := "FaxRows$Told", name := "a0", desc := "()I" } : Jvm.MethodName) ({ cls := "FaxRows$Told", name := "a0", desc := "()I" } : Jvm.MethodName)) ∈ wT := wk (lwt_4 (List.mem_of_getElem? (i := 106) (by decide +kernel))) rfl
set_option maxRecDepth 20000 in
theorem k872 : (Jvm.Cond.code ({ cls := "FaxRows$Told", name := "a0", desc := "()I" } : Jvm.MethodName) prog_7_method_4_code (1 : Nat) (Option.some Jvm.ClassFile.FieldType.int)) ∈ wT := wk (lwt_4 (List.mem_of_getElem? (i := 107) rfl)) rfl
set_option maxRecDepth 20000 in
theorem k873 : (Jvm.Cond.methodLink "FaxRows$Reader" (173 : Nat) ({ cls := "FaxRows$Told", name := "turnAt", desc := "(I)V" } : Jvm.MethodName)) ∈ wT := wk (lwt_4 (List.mem_of_getElem? (i := 108) (by decide +kernel))) rfl
set_option maxRecDepth 20000 in
theorem k874 : (Jvm.Cond.methodLink "FaxRows$Reader" (158 : Nat) ({ cls := "FaxRows$Told", name := "b2", desc := "()I" } : Jvm.MethodName)) ∈ wT := wk (lwt_4 (List.mem_of_getElem? (i := 109) (by decide +kernel))) rfl
set_option maxRecDepth 20000 in
theorem k875 : (Jvm.Cond.methodLink "FaxRows$Reader" (87 : Nat) ({ cls := "FaxRows$Lists", name := "length", desc := "(I)I" } : Jvm.MethodName)) ∈ wT := wk (lwt_4 (List.mem_of_getElem? (i := 110) (by decide +kernel))) rfl
set_option maxRecDepth 20000 in
theorem k876 : (Jvm.Cond.methodLink "FaxRows$Reader" (119 : Nat) ({ cls := "FaxRows$Reader", name := "closeRow", desc := "(ZZ)V" } : Jvm.MethodName)) ∈ wT := wk (lwt_4 (List.mem_of_getElem? (i := 111) (by decide +kernel))) rfl
set_option maxRecDepth 20000 in
theorem k878 : (Jvm.Cond.instanceMethod ({ cls := "FaxRows$Reader", name := "closeRow", desc := "(ZZ)V" } : Jvm.MethodName)) ∈ wT := wk (lwt_4 (List.mem_of_getElem? (i := 113) (by decide +kernel))) rfl
set_option maxRecDepth 20000 in
theorem k879 : (Jvm.Cond.code ({ cls := "FaxRows$Reader", name := "closeRow", desc := "(ZZ)V" } : Jvm.MethodName) prog_5_method_11_code (4 : Nat) (Option.none : Option Jvm.ClassFile.FieldType)) ∈ wT := wk (lwt_4 (List.mem_of_getElem? (i := 114) rfl)) rfl
set_option maxRecDepth 20000 in
theorem k880 : (Jvm.Cond.methodLink "FaxRows$Reader" (126 : Nat) ({ cls := "FaxRows$Lists", name := "emptyOpen", desc := "()V" } : Jvm.MethodName)) ∈ wT := wk (lwt_4 (List.mem_of_getElem? (i := 115) (by decide +kernel))) rfl
set_option maxRecDepth 20000 in
theorem k881 : (Jvm.Cond.methodLink "FaxRows$Reader" (129 : Nat) ({ cls := "FaxRows$Lists", name := "appendAll", desc := "(I)V" } : Jvm.MethodName)) ∈ wT := wk (lwt_4 (List.mem_of_getElem? (i := 116) (by decide +kernel))) rfl
set_option maxRecDepth 20000 in
theorem k882 : (Jvm.Cond.instanceMethod ({ cls := "FaxRows$Lists", name := "appendAll", desc := "(I)V" } : Jvm.MethodName)) ∈ wT := wk (lwt_4 (List.mem_of_getElem? (i := 117) (by decide +kernel))) rfl
set_option maxRecDepth 20000 in
theorem k883 : (Jvm.Cond.selects "FaxRows$Lists" ({ cls := "FaxRows$Lists", name := "appendAll", desc := "(I)V" } : Jvm.MethodName) ({ cls := "FaxRows$Lists", name := "appendAll", desc := "(I)V" } : Jvm.MethodName)) ∈ wT := wk (lwt_4 (List.mem_of_getElem? (i := 118) (by decide +kernel))) rfl
set_option maxRecDepth 20000 in
theorem k884 : (Jvm.Cond.code ({ cls := "FaxRows$Lists", name := "appendAll", desc := "(I)V" } : Jvm.MethodName) prog_4_method_12_code (4 : Nat) (Option.none : Option Jvm.ClassFile.FieldType)) ∈ wT := wk (lwt_4 (List.mem_of_getElem? (i := 119) rfl)) rfl
set_option maxRecDepth 20000 in
theorem k885 : (Jvm.Cond.methodLink "FaxRows$Lists" (39 : Nat) ({ cls := "FaxRows$Lists", name := "append", desc := "(I)V" } : Jvm.MethodName)) ∈ wT := wk (lwt_4 (List.mem_of_getElem? (i := 120) (by decide +kernel))) rfl
set_option maxRecDepth 20000 in
theorem k886 : (Jvm.Cond.methodLink "FaxRows$Reader" (132 : Nat) ({ cls := "FaxRows$Lists", name := "close", desc := "()V" } : Jvm.MethodName)) ∈ wT := wk (lwt_4 (List.mem_of_getElem? (i := 121) (by decide +kernel))) rfl
set_option maxRecDepth 20000 in
theorem k887 : (Jvm.Cond.methodLink "FaxRows" (124 : Nat) ({ cls := "FaxRows$Reader", name := "readMarked", desc := "(ZZ)I" } : Jvm.MethodName)) ∈ wT := wk (lwt_4 (List.mem_of_getElem? (i := 122) (by decide +kernel))) rfl
set_option maxRecDepth 20000 in
theorem k888 : (Jvm.Cond.instanceMethod ({ cls := "FaxRows$Reader", name := "readMarked", desc := "(ZZ)I" } : Jvm.MethodName)) ∈ wT := wk (lwt_4 (List.mem_of_getElem? (i := 123) (by decide +kernel))) rfl
set_option maxRecDepth 20000 in
theorem k889 : (Jvm.Cond.selects "FaxRows$Reader" ({ cls := "FaxRows$Reader", name := "readMarked", desc := "(ZZ)I" } : Jvm.MethodName) ({ cls := "FaxRows$Reader", name := "readMarked", desc := "(ZZ)I" } : Jvm.MethodName)) ∈ wT := wk (lwt_4 (List.mem_of_getElem? (i := 124) (by decide +kernel))) rfl
set_option maxRecDepth 20000 in
theorem k890 : (Jvm.Cond.code ({ cls := "FaxRows$Reader", name := "readMarked", desc := "(ZZ)I" } : Jvm.MethodName) prog_5_method_9_code (6 : Nat) (Option.some Jvm.ClassFile.FieldType.int)) ∈ wT := wk (lwt_4 (List.mem_of_getElem? (i := 125) rfl)) rfl
set_option maxRecDepth 20000 in
theorem k891 : (Jvm.Cond.methodLink "FaxRows$Reader" (95 : Nat) ({ cls := "FaxRows$Bits", name := "skipToMark", desc := "()Z" } : Jvm.MethodName)) ∈ wT := wk (lwt_4 (List.mem_of_getElem? (i := 126) (by decide +kernel))) rfl
set_option maxRecDepth 20000 in
theorem k892 : (Jvm.Cond.instanceMethod ({ cls := "FaxRows$Bits", name := "skipToMark", desc := "()Z" } : Jvm.MethodName)) ∈ wT := wk (lwt_4 (List.mem_of_getElem? (i := 127) (by decide +kernel))) rfl
set_option maxRecDepth 20000 in
theorem k893 : (Jvm.Cond.selects "FaxRows$Bits" ({ cls := "FaxRows$Bits", name := "skipToMark", desc := "()Z" } : Jvm.MethodName) ({ cls := "FaxRows$Bits", name := "skipToMark", desc := "()Z" } : Jvm.MethodName)) ∈ wT := wk (lwt_4 (List.mem_of_getElem? (i := 128) (by decide +kernel))) rfl
set_option maxRecDepth 20000 in
theorem k894 : (Jvm.Cond.code ({ cls := "FaxRows$Bits", name := "skipToMark", desc := "()Z" } : Jvm.MethodName) prog_2_method_16_code (3 : Nat) (Option.some Jvm.ClassFile.FieldType.boolean)) ∈ wT := wk (lwt_4 (List.mem_of_getElem? (i := 129) rfl)) rfl
set_option maxRecDepth 20000 in
theorem k895 : (Jvm.Cond.methodLink "FaxRows$Bits" (43 : Nat) ({ cls := "FaxRows$Bits", name := "zerosAhead", desc := "(I)I" } : Jvm.MethodName)) ∈ wT := wk (lwt_4 (List.mem_of_getElem? (i := 130) (by decide +kernel))) rfl
set_option maxRecDepth 20000 in
theorem k897 : (Jvm.Cond.instanceMethod ({ cls := "FaxRows$Bits", name := "zerosAhead", desc := "(I)I" } : Jvm.MethodName)) ∈ wT := wk (lwt_4 (List.mem_of_getElem? (i := 132) (by decide +kernel))) rfl
set_option maxRecDepth 20000 in
theorem k898 : (Jvm.Cond.code ({ cls := "FaxRows$Bits", name := "zerosAhead", desc := "(I)I" } : Jvm.MethodName) prog_2_method_17_code (4 : Nat) (Option.some Jvm.ClassFile.FieldType.int)) ∈ wT := wk (lwt_4 (List.mem_of_getElem? (i := 133) rfl)) rfl
set_option maxRecDepth 20000 in
theorem k899 : (Jvm.Cond.methodLink "FaxRows$Bits" (49 : Nat) ({ cls := "FaxRows$Bits", name := "isOne", desc := "(I)Z" } : Jvm.MethodName)) ∈ wT := wk (lwt_4 (List.mem_of_getElem? (i := 134) (by decide +kernel))) rfl
set_option maxRecDepth 20000 in
theorem k900 : (Jvm.Cond.methodLink "FaxRows$Bits" (53 : Nat) ({ cls := "java/lang/Math", name := "min", desc := "(II)I" } : Jvm.MethodName)) ∈ wT := wk (lwt_4 (List.mem_of_getElem? (i := 135) (by decide +kernel))) rfl
set_option maxRecDepth 20000 in
theorem k901 : (Jvm.Cond.methodLink "FaxRows$Bits" (46 : Nat) ({ cls := "FaxRows$Bits", name := "left", desc := "()I" } : Jvm.MethodName)) ∈ wT := wk (lwt_4 (List.mem_of_getElem? (i := 136) (by decide +kernel))) rfl
set_option maxRecDepth 20000 in
theorem k902 : (Jvm.Cond.methodLink "FaxRows$Reader" (103 : Nat) ({ cls := "FaxRows$Bits", name := "isOne", desc := "(I)Z" } : Jvm.MethodName)) ∈ wT := wk (lwt_4 (List.mem_of_getElem? (i := 137) (by decide +kernel))) rfl
set_option maxRecDepth 20000 in
theorem k903 : (Jvm.Cond.methodLink "FaxRows$Reader" (106 : Nat) ({ cls := "FaxRows$Bits", name := "skip", desc := "(I)V" } : Jvm.MethodName)) ∈ wT := wk (lwt_4 (List.mem_of_getElem? (i := 138) (by decide +kernel))) rfl
set_option maxRecDepth 20000 in
theorem k904 : (Jvm.Cond.methodLink "FaxRows$Reader" (110 : Nat) ({ cls := "FaxRows$Bits", name := "isAtMark", desc := "()Z" } : Jvm.MethodName)) ∈ wT := wk (lwt_4 (List.mem_of_getElem? (i := 139) (by decide +kernel))) rfl
set_option maxRecDepth 20000 in
theorem k905 : (Jvm.Cond.instanceMethod ({ cls := "FaxRows$Bits", name := "isAtMark", desc := "()Z" } : Jvm.MethodName)) ∈ wT := wk (lwt_4 (List.mem_of_getElem? (i := 140) (by decide +kernel))) rfl
set_option maxRecDepth 20000 in
theorem k906 : (Jvm.Cond.selects "FaxRows$Bits" ({ cls := "FaxRows$Bits", name := "isAtMark", desc := "()Z" } : Jvm.MethodName) ({ cls := "FaxRows$Bits", name := "isAtMark", desc := "()Z" } : Jvm.MethodName)) ∈ wT := wk (lwt_4 (List.mem_of_getElem? (i := 141) (by decide +kernel))) rfl
set_option maxRecDepth 20000 in
theorem k907 : (Jvm.Cond.code ({ cls := "FaxRows$Bits", name := "isAtMark", desc := "()Z" } : Jvm.MethodName) prog_2_method_15_code (2 : Nat) (Option.some Jvm.ClassFile.FieldType.boolean)) ∈ wT := wk (lwt_4 (List.mem_of_getElem? (i := 142) rfl)) rfl
set_option maxRecDepth 20000 in
theorem k908 : (Jvm.Cond.methodLink "FaxRows$Reader" (113 : Nat) ({ cls := "FaxRows$Reader", name := "readRuns", desc := "()I" } : Jvm.MethodName)) ∈ wT := wk (lwt_4 (List.mem_of_getElem? (i := 143) (by decide +kernel))) rfl
set_option maxRecDepth 20000 in
theorem k910 : (Jvm.Cond.instanceMethod ({ cls := "FaxRows$Reader", name := "readRuns", desc := "()I" } : Jvm.MethodName)) ∈ wT := wk (lwt_4 (List.mem_of_getElem? (i := 145) (by decide +kernel))) rfl
set_option maxRecDepth 20000 in
theorem k911 : (Jvm.Cond.code ({ cls := "FaxRows$Reader", name := "readRuns", desc := "()I" } : Jvm.MethodName) prog_5_method_12_code (5 : Nat) (Option.some Jvm.ClassFile.FieldType.int)) ∈ wT := wk (lwt_4 (List.mem_of_getElem? (i := 146) rfl)) rfl
set_option maxRecDepth 20000 in
theorem k912 : (Jvm.Cond.methodLink "FaxRows" (128 : Nat) ({ cls := "FaxRows$Reader", name := "forget", desc := "()V" } : Jvm.MethodName)) ∈ wT := wk (lwt_4 (List.mem_of_getElem? (i := 147) (by decide +kernel))) rfl
set_option maxRecDepth 20000 in
theorem k913 : (Jvm.Cond.methodLink "FaxRowsLaw" (60 : Nat) ({ cls := "FaxRows", name := "damaged", desc := "(I)Z" } : Jvm.MethodName)) ∈ wT := wk (lwt_4 (List.mem_of_getElem? (i := 148) (by decide +kernel))) rfl
set_option maxRecDepth 20000 in
theorem k914 : (Jvm.Cond.instanceMethod ({ cls := "FaxRows", name := "damaged", desc := "(I)Z" } : Jvm.MethodName)) ∈ wT := wk (lwt_4 (List.mem_of_getElem? (i := 149) (by decide +kernel))) rfl
set_option maxRecDepth 20000 in
theorem k915 : (Jvm.Cond.selects "FaxRows" ({ cls := "FaxRows", name := "damaged", desc := "(I)Z" } : Jvm.MethodName) ({ cls := "FaxRows", name := "damaged", desc := "(I)Z" } : Jvm.MethodName)) ∈ wT := wk (lwt_4 (List.mem_of_getElem? (i := 150) (by decide +kernel))) rfl
set_option maxRecDepth 20000 in
theorem k916 : (Jvm.Cond.code ({ cls := "FaxRows", name := "damaged", desc := "(I)Z" } : Jvm.MethodName) prog_1_method_9_code (2 : Nat) (Option.some Jvm.ClassFile.FieldType.boolean)) ∈ wT := wk (lwt_4 (List.mem_of_getElem? (i := 151) rfl)) rfl
set_option maxRecDepth 20000 in
theorem k917 : (Jvm.Cond.methodLink "FaxRows" (146 : Nat) ({ cls := "FaxRows$Reader", name := "wasDamaged", desc := "(I)Z" } : Jvm.MethodName)) ∈ wT := wk (lwt_4 (List.mem_of_getElem? (i := 152) (by decide +kernel))) rfl
set_option maxRecDepth 20000 in
theorem k918 : (Jvm.Cond.instanceMethod ({ cls := "FaxRows$Reader", name := "wasDamaged", desc := "(I)Z" } : Jvm.MethodName)) ∈ wT := wk (lwt_4 (List.mem_of_getElem? (i := 153) (by decide +kernel))) rfl
set_option maxRecDepth 20000 in
theorem k919 : (Jvm.Cond.selects "FaxRows$Reader" ({ cls := "FaxRows$Reader", name := "wasDamaged", desc := "(I)Z" } : Jvm.MethodName) ({ cls := "FaxRows$Reader", name := "wasDamaged", desc := "(I)Z" } : Jvm.MethodName)) ∈ wT := wk (lwt_4 (List.mem_of_getElem? (i := 154) (by decide +kernel))) rfl
set_option maxRecDepth 20000 in
theorem k920 : (Jvm.Cond.code ({ cls := "FaxRows$Reader", name := "wasDamaged", desc := "(I)Z" } : Jvm.MethodName) prog_5_method_6_code (2 : Nat) (Option.some Jvm.ClassFile.FieldType.boolean)) ∈ wT := wk (lwt_4 (List.mem_of_getElem? (i := 155) rfl)) rfl
set_option maxRecDepth 20000 in
theorem k921 : (Jvm.Cond.methodLink "FaxRows$Reader" (83 : Nat) ({ cls := "FaxRows$Lists", name := "has", desc := "(I)Z" } : Jvm.MethodName)) ∈ wT := wk (lwt_4 (List.mem_of_getElem? (i := 156) (by decide +kernel))) rfl
set_option maxRecDepth 20000 in
theorem k922 : (Jvm.Cond.instanceMethod ({ cls := "FaxRows$Lists", name := "has", desc := "(I)Z" } : Jvm.MethodName)) ∈ wT := wk (lwt_4 (List.mem_of_getElem? (i := 157) (by decide +kernel))) rfl
set_option maxRecDepth 20000 in
theorem k923 : (Jvm.Cond.selects "FaxRows$Lists" ({ cls := "FaxRows$Lists", name := "has", desc := "(I)Z" } : Jvm.MethodName) ({ cls := "FaxRows$Lists", name := "has", desc := "(I)Z" } : Jvm.MethodName)) ∈ wT := wk (lwt_4 (List.mem_of_getElem? (i := 158) (by decide +kernel))) rfl
set_option maxRecDepth 20000 in
theorem k924 : (Jvm.Cond.code ({ cls := "FaxRows$Lists", name := "has", desc := "(I)Z" } : Jvm.MethodName) prog_4_method_4_code (2 : Nat) (Option.some Jvm.ClassFile.FieldType.boolean)) ∈ wT := wk (lwt_4 (List.mem_of_getElem? (i := 159) rfl)) rfl
set_option maxRecDepth 20000 in
theorem k925 : (Jvm.Cond.methodLink "FaxRowsLaw" (64 : Nat) ({ cls := "FaxRows", name := "changes", desc := "(II)I" } : Jvm.MethodName)) ∈ wT := wk (lwt_4 (List.mem_of_getElem? (i := 160) (by decide +kernel))) rfl
set_option maxRecDepth 20000 in
theorem k926 : (Jvm.Cond.instanceMethod ({ cls := "FaxRows", name := "changes", desc := "(II)I" } : Jvm.MethodName)) ∈ wT := wk (lwt_4 (List.mem_of_getElem? (i := 161) (by decide +kernel))) rfl
set_option maxRecDepth 20000 in
theorem k927 : (Jvm.Cond.selects "FaxRows" ({ cls := "FaxRows", name := "changes", desc := "(II)I" } : Jvm.MethodName) ({ cls := "FaxRows", name := "changes", desc := "(II)I" } : Jvm.MethodName)) ∈ wT := wk (lwt_4 (List.mem_of_getElem? (i := 162) (by decide +kernel))) rfl
set_option maxRecDepth 20000 in
theorem k928 : (Jvm.Cond.code ({ cls := "FaxRows", name := "changes", desc := "(II)I" } : Jvm.MethodName) prog_1_method_10_code (3 : Nat) (Option.some Jvm.ClassFile.FieldType.int)) ∈ wT := wk (lwt_4 (List.mem_of_getElem? (i := 163) rfl)) rfl
set_option maxRecDepth 20000 in
theorem k929 : (Jvm.Cond.methodLink "FaxRows" (149 : Nat) ({ cls := "FaxRows$Reader", name := "changeOf", desc := "(II)I" } : Jvm.MethodName)) ∈ wT := wk (lwt_4 (List.mem_of_getElem? (i := 164) (by decide +kernel))) rfl
set_option maxRecDepth 20000 in
theorem k930 : (Jvm.Cond.instanceMethod ({ cls := "FaxRows$Reader", name := "changeOf", desc := "(II)I" } : Jvm.MethodName)) ∈ wT := wk (lwt_4 (List.mem_of_getElem? (i := 165) (by decide +kernel))) rfl
set_option maxRecDepth 20000 in
theorem k931 : (Jvm.Cond.selects "FaxRows$Reader" ({ cls := "FaxRows$Reader", name := "changeOf", desc := "(II)I" } : Jvm.MethodName) ({ cls := "FaxRows$Reader", name := "changeOf", desc := "(II)I" } : Jvm.MethodName)) ∈ wT := wk (lwt_4 (List.mem_of_getElem? (i := 166) (by decide +kernel))) rfl
set_option maxRecDepth 20000 in
theorem k932 : (Jvm.Cond.code ({ cls := "FaxRows$Reader", name := "changeOf", desc := "(II)I" } : Jvm.MethodName) prog_5_method_7_code (3 : Nat) (Option.some Jvm.ClassFile.FieldType.int)) ∈ wT := wk (lwt_4 (List.mem_of_getElem? (i := 167) rfl)) rfl
set_option maxRecDepth 20000 in
theorem k933 : (Jvm.Cond.methodLink "FaxRows$Reader" (91 : Nat) ({ cls := "FaxRows$Lists", name := "item", desc := "(III)I" } : Jvm.MethodName)) ∈ wT := wk (lwt_4 (List.mem_of_getElem? (i := 168) (by decide +kernel))) rfl
set_option maxRecDepth 20000 in
theorem k934 : (Jvm.Cond.methodLink "FaxRowsLaw" (69 : Nat) ({ cls := "FaxRows", name := "mode", desc := "(II)I" } : Jvm.MethodName)) ∈ wT := wk (lwt_4 (List.mem_of_getElem? (i := 169) (by decide +kernel))) rfl
set_option maxRecDepth 20000 in
theorem k935 : (Jvm.Cond.instanceMethod ({ cls := "FaxRows", name := "mode", desc := "(II)I" } : Jvm.MethodName)) ∈ wT := wk (lwt_4 (List.mem_of_getElem? (i := 170) (by decide +kernel))) rfl
set_option maxRecDepth 20000 in
theorem k936 : (Jvm.Cond.selects "FaxRows" ({ cls := "FaxRows", name := "mode", desc := "(II)I" } : Jvm.MethodName) ({ cls := "FaxRows", name := "mode", desc := "(II)I" } : Jvm.MethodName)) ∈ wT := wk (lwt_4 (List.mem_of_getElem? (i := 171) (by decide +kernel))) rfl
set_option maxRecDepth 20000 in
theorem k937 : (Jvm.Cond.code ({ cls := "FaxRows", name := "mode", desc := "(II)I" } : Jvm.MethodName) prog_1_method_11_code (3 : Nat) (Option.some Jvm.ClassFile.FieldType.int)) ∈ wT := wk (lwt_4 (List.mem_of_getElem? (i := 172) rfl)) rfl
set_option maxRecDepth 20000 in
theorem k938 : (Jvm.Cond.methodLink "FaxRows" (152 : Nat) ({ cls := "FaxRows$Reader", name := "modeOf", desc := "(II)I" } : Jvm.MethodName)) ∈ wT := wk (lwt_4 (List.mem_of_getElem? (i := 173) (by decide +kernel))) rfl
set_option maxRecDepth 20000 in
theorem k939 : (Jvm.Cond.instanceMethod ({ cls := "FaxRows$Reader", name := "modeOf", desc := "(II)I" } : Jvm.MethodName)) ∈ wT := wk (lwt_4 (List.mem_of_getElem? (i := 174) (by decide +kernel))) rfl
set_option maxRecDepth 20000 in
theorem k940 : (Jvm.Cond.selects "FaxRows$Reader" ({ cls := "FaxRows$Reader", name := "modeOf", desc := "(II)I" } : Jvm.MethodName) ({ cls := "FaxRows$Reader", name := "modeOf", desc := "(II)I" } : Jvm.MethodName)) ∈ wT := wk (lwt_4 (List.mem_of_getElem? (i := 175) (by decide +kernel))) rfl
set_option maxRecDepth 20000 in
theorem k941 : (Jvm.Cond.code ({ cls := "FaxRows$Reader", name := "modeOf", desc := "(II)I" } : Jvm.MethodName) prog_5_method_8_code (3 : Nat) (Option.some Jvm.ClassFile.FieldType.int)) ∈ wT := wk (lwt_4 (List.mem_of_getElem? (i := 176) rfl)) rfl
set_option maxRecDepth 20000 in
theorem k942 : (Jvm.Cond.methodLink "FaxRowsLaw" (73 : Nat) ({ cls := "FaxRows", name := "fill", desc := "(I)Z" } : Jvm.MethodName)) ∈ wT := wk (lwt_4 (List.mem_of_getElem? (i := 177) (by decide +kernel))) rfl
set_option maxRecDepth 20000 in
theorem k943 : (Jvm.Cond.instanceMethod ({ cls := "FaxRows", name := "fill", desc := "(I)Z" } : Jvm.MethodName)) ∈ wT := wk (lwt_4 (List.mem_of_getElem? (i := 178) (by decide +kernel))) rfl
set_option maxRecDepth 20000 in
theorem k944 : (Jvm.Cond.selects "FaxRows" ({ cls := "FaxRows", name := "fill", desc := "(I)Z" } : Jvm.MethodName) ({ cls := "FaxRows", name := "fill", desc := "(I)Z" } : Jvm.MethodName)) ∈ wT := wk (lwt_4 (List.mem_of_getElem? (i := 179) (by decide +kernel))) rfl
set_option maxRecDepth 20000 in
theorem k945 : (Jvm.Cond.code ({ cls := "FaxRows", name := "fill", desc := "(I)Z" } : Jvm.MethodName) prog_1_method_12_code (2 : Nat) (Option.some Jvm.ClassFile.FieldType.boolean)) ∈ wT := wk (lwt_4 (List.mem_of_getElem? (i := 180) rfl)) rfl
set_option maxRecDepth 20000 in
theorem k946 : (Jvm.Cond.methodLink "FaxRowsLaw" (77 : Nat) ({ cls := "FaxRows", name := "repair", desc := "(I)Z" } : Jvm.MethodName)) ∈ wT := wk (lwt_4 (List.mem_of_getElem? (i := 181) (by decide +kernel))) rfl
set_option maxRecDepth 20000 in
theorem k947 : (Jvm.Cond.instanceMethod ({ cls := "FaxRows", name := "repair", desc := "(I)Z" } : Jvm.MethodName)) ∈ wT := wk (lwt_4 (List.mem_of_getElem? (i := 182) (by decide +kernel))) rfl
set_option maxRecDepth 20000 in
theorem k948 : (Jvm.Cond.selects "FaxRows" ({ cls := "FaxRows", name := "repair", desc := "(I)Z" } : Jvm.MethodName) ({ cls := "FaxRows", name := "repair", desc := "(I)Z" } : Jvm.MethodName)) ∈ wT := wk (lwt_4 (List.mem_of_getElem? (i := 183) (by decide +kernel))) rfl
set_option maxRecDepth 20000 in
theorem k949 : (Jvm.Cond.code ({ cls := "FaxRows", name := "repair", desc := "(I)Z" } : Jvm.MethodName) prog_1_method_13_code (2 : Nat) (Option.some Jvm.ClassFile.FieldType.boolean)) ∈ wT := wk (lwt_4 (List.mem_of_getElem? (i := 184) rfl)) rfl
set_option maxRecDepth 20000 in
theorem k950 : (Jvm.Cond.methodLink "FaxRowsLaw" (81 : Nat) ({ cls := "FaxRows", name := "order", desc := "(Z)I" } : Jvm.MethodName)) ∈ wT := wk (lwt_4 (List.mem_of_getElem? (i := 185) (by decide +kernel))) rfl
set_option maxRecDepth 20000 in
theorem k951 : (Jvm.Cond.instanceMethod ({ cls := "FaxRows", name := "order", desc := "(Z)I" } : Jvm.MethodName)) ∈ wT := wk (lwt_4 (List.mem_of_getElem? (i := 186) (by decide +kernel))) rfl
set_option maxRecDepth 20000 in
theorem k952 : (Jvm.Cond.selects "FaxRows" ({ cls := "FaxRows", name := "order", desc := "(Z)I" } : Jvm.MethodName) ({ cls := "FaxRows", name := "order", desc := "(Z)I" } : Jvm.MethodName)) ∈ wT := wk (lwt_4 (List.mem_of_getElem? (i := 187) (by decide +kernel))) rfl
set_option maxRecDepth 20000 in
theorem k953 : (Jvm.Cond.code ({ cls := "FaxRows", name := "order", desc := "(Z)I" } : Jvm.MethodName) prog_1_method_14_code (2 : Nat) (Option.some Jvm.ClassFile.FieldType.int)) ∈ wT := wk (lwt_4 (List.mem_of_getElem? (i := 188) rfl)) rfl
set_option maxRecDepth 20000 in
theorem k954 : (Jvm.Cond.methodLink "FaxRows" (158 : Nat) ({ cls := "FaxRows$Bits", name := "setLowestFirst", desc := "(Z)V" } : Jvm.MethodName)) ∈ wT := wk (lwt_4 (List.mem_of_getElem? (i := 189) (by decide +kernel))) rfl
set_option maxRecDepth 20000 in
theorem k955 : (Jvm.Cond.instanceMethod ({ cls := "FaxRows$Bits", name := "setLowestFirst", desc := "(Z)V" } : Jvm.MethodName)) ∈ wT := wk (lwt_4 (List.mem_of_getElem? (i := 190) (by decide +kernel))) rfl
set_option maxRecDepth 20000 in
theorem k956 : (Jvm.Cond.selects "FaxRows$Bits" ({ cls := "FaxRows$Bits", name := "setLowestFirst", desc := "(Z)V" } : Jvm.MethodName) ({ cls := "FaxRows$Bits", name := "setLowestFirst", desc := "(Z)V" } : Jvm.MethodName)) ∈ wT := wk (lwt_4 (List.mem_of_getElem? (i := 191) (by decide +kernel))) rfl
set_option maxRecDepth 20000 in
theorem k957 : (Jvm.Cond.code ({ cls := "FaxRows$Bits", name := "setLowestFirst", desc := "(Z)V" } : Jvm.MethodName) prog_2_method_2_code (2 : Nat) (Option.none : Option Jvm.ClassFile.FieldType)) ∈ wT := wk (lwt_4 (List.mem_of_getElem? (i := 192) rfl)) rfl
set_option maxRecDepth 20000 in
theorem k958 : (Jvm.Cond.methodLink "FaxRowsLaw" (86 : Nat) ({ cls := "FaxRows", name := "clear", desc := "()V" } : Jvm.MethodName)) ∈ wT := wk (lwt_4 (List.mem_of_getElem? (i := 193) (by decide +kernel))) rfl
set_option maxRecDepth 20000 in
theorem k959 : (Jvm.Cond.instanceMethod ({ cls := "FaxRows", name := "clear", desc := "()V" } : Jvm.MethodName)) ∈ wT := wk (lwt_4 (List.mem_of_getElem? (i := 194) (by decide +kernel))) rfl
set_option maxRecDepth 20000 in
theorem k960 : (Jvm.Cond.selects "FaxRows" ({ cls := "FaxRows", name := "clear", desc := "()V" } : Jvm.MethodName) ({ cls := "FaxRows", name := "clear", desc := "()V" } : Jvm.MethodName)) ∈ wT := wk (lwt_4 (List.mem_of_getElem? (i := 195) (by decide +kernel))) rfl
set_option maxRecDepth 20000 in
theorem k961 : (Jvm.Cond.code ({ cls := "FaxRows", name := "clear", desc := "()V" } : Jvm.MethodName) prog_1_method_15_code (1 : Nat) (Option.none : Option Jvm.ClassFile.FieldType)) ∈ wT := wk (lwt_4 (List.mem_of_getElem? (i := 196) rfl)) rfl
set_option maxRecDepth 20000 in
theorem k962 : (Jvm.Cond.methodLink "FaxRows" (162 : Nat) ({ cls := "FaxRows$Lists", name := "removeAll", desc := "()V" } : Jvm.MethodName)) ∈ wT := wk (lwt_4 (List.mem_of_getElem? (i := 197) (by decide +kernel))) rfl
set_option maxRecDepth 20000 in
theorem k963 : (Jvm.Cond.methodLink "FaxRowsLaw" (15 : Nat) ({ cls := "FaxRowsLaw", name := "cell", desc := "([II)I" } : Jvm.MethodName)) ∈ wT := wk (lwt_4 (List.mem_of_getElem? (i := 198) (by decide +kernel))) rfl
set_option maxRecDepth 20000 in
theorem k964 : (Jvm.Cond.static ({ cls := "FaxRowsLaw", name := "cell", desc := "([II)I" } : Jvm.MethodName)) ∈ wT := wk (lwt_4 (List.mem_of_getElem? (i := 199) (by decide +kernel))) rfl
set_option maxRecDepth 20000 in
theorem k965 : (Jvm.Cond.code ({ cls := "FaxRowsLaw", name := "cell", desc := "([II)I" } : Jvm.MethodName) method_2_code (2 : Nat) (Option.some Jvm.ClassFile.FieldType.int)) ∈ wT := wk (lwt_4 (List.mem_of_getElem? (i := 200) rfl)) rfl
set_option maxRecDepth 20000 in
theorem k966 : (Jvm.Cond.methodLink "FaxRowsLaw" (56 : Nat) ({ cls := "FaxRowsLaw", name := "at", desc := "(LFaxRows;II[J)I" } : Jvm.MethodName)) ∈ wT := wk (lwt_4 (List.mem_of_getElem? (i := 201) (by decide +kernel))) rfl
set_option maxRecDepth 20000 in
theorem k967 : (Jvm.Cond.static ({ cls := "FaxRowsLaw", name := "at", desc := "(LFaxRows;II[J)I" } : Jvm.MethodName)) ∈ wT := wk (lwt_4 (List.mem_of_getElem? (i := 202) (by decide +kernel))) rfl
set_option maxRecDepth 20000 in
theorem k970 : (Jvm.Cond.methodLink "FaxRowsLaw" (7 : Nat) ({ cls := "FaxRows", name := "at", desc := "(II)Z" } : Jvm.MethodName)) ∈ wT := wk (lwt_4 (List.mem_of_getElem? (i := 205) (by decide +kernel))) rfl
set_option maxRecDepth 20000 in
theorem k971 : (Jvm.Cond.instanceMethod ({ cls := "FaxRows", name := "at", desc := "(II)Z" } : Jvm.MethodName)) ∈ wT := wk (lwt_4 (List.mem_of_getElem? (i := 206) (by decide +kernel))) rfl
set_option maxRecDepth 20000 in
theorem k972 : (Jvm.Cond.selects "FaxRows" ({ cls := "FaxRows", name := "at", desc := "(II)Z" } : Jvm.MethodName) ({ cls := "FaxRows", name := "at", desc := "(II)Z" } : Jvm.MethodName)) ∈ wT := wk (lwt_4 (List.mem_of_getElem? (i := 207) (by decide +kernel))) rfl
set_option maxRecDepth 20000 in
theorem k973 : (Jvm.Cond.code ({ cls := "FaxRows", name := "at", desc := "(II)Z" } : Jvm.MethodName) prog_1_method_8_code (3 : Nat) (Option.some Jvm.ClassFile.FieldType.boolean)) ∈ wT := wk (lwt_4 (List.mem_of_getElem? (i := 208) rfl)) rfl
set_option maxRecDepth 20000 in
theorem k974 : (Jvm.Cond.methodLink "FaxRows" (131 : Nat) ({ cls := "FaxRows$Reader", name := "hasRow", desc := "(I)Z" } : Jvm.MethodName)) ∈ wT := wk (lwt_4 (List.mem_of_getElem? (i := 209) (by decide +kernel))) rfl
set_option maxRecDepth 20000 in
theorem k975 : (Jvm.Cond.instanceMethod ({ cls := "FaxRows$Reader", name := "hasRow", desc := "(I)Z" } : Jvm.MethodName)) ∈ wT := wk (lwt_4 (List.mem_of_getElem? (i := 210) (by decide +kernel))) rfl
set_option maxRecDepth 20000 in
theorem k976 : (Jvm.Cond.selects "FaxRows$Reader" ({ cls := "FaxRows$Reader", name := "hasRow", desc := "(I)Z" } : Jvm.MethodName) ({ cls := "FaxRows$Reader", name := "hasRow", desc := "(I)Z" } : Jvm.MethodName)) ∈ wT := wk (lwt_4 (List.mem_of_getElem? (i := 211) (by decide +kernel))) rfl
set_option maxRecDepth 20000 in
theorem k977 : (Jvm.Cond.code ({ cls := "FaxRows$Reader", name := "hasRow", desc := "(I)Z" } : Jvm.MethodName) prog_5_method_4_code (2 : Nat) (Option.some Jvm.ClassFile.FieldType.boolean)) ∈ wT := wk (lwt_4 (List.mem_of_getElem? (i := 212) rfl)) rfl
set_option maxRecDepth 20000 in
theorem k983 : (Jvm.Cond.methodLink "FaxRows" (142 : Nat) ({ cls := "FaxRows$Reader", name := "isBlack", desc := "(II)Z" } : Jvm.MethodName)) ∈ wT := wk (lwt_4 (List.mem_of_getElem? (i := 218) (by decide +kernel))) rfl
set_option maxRecDepth 20000 in
theorem k984 : (Jvm.Cond.instanceMethod ({ cls := "FaxRows$Reader", name := "isBlack", desc := "(II)Z" } : Jvm.MethodName)) ∈ wT := wk (lwt_4 (List.mem_of_getElem? (i := 219) (by decide +kernel))) rfl
set_option maxRecDepth 20000 in
theorem k985 : (Jvm.Cond.selects "FaxRows$Reader" ({ cls := "FaxRows$Reader", name := "isBlack", desc := "(II)Z" } : Jvm.MethodName) ({ cls := "FaxRows$Reader", name := "isBlack", desc := "(II)Z" } : Jvm.MethodName)) ∈ wT := wk (lwt_4 (List.mem_of_getElem? (i := 220) (by decide +kernel))) rfl
set_option maxRecDepth 20000 in
theorem k986 : (Jvm.Cond.code ({ cls := "FaxRows$Reader", name := "isBlack", desc := "(II)Z" } : Jvm.MethodName) prog_5_method_5_code (5 : Nat) (Option.some Jvm.ClassFile.FieldType.boolean)) ∈ wT := wk (lwt_4 (List.mem_of_getElem? (i := 221) rfl)) rfl
set_option maxRecDepth 20000 in
theorem k987 : (Jvm.Cond.classLink "FaxRowsLaw" (24 : Nat) "FaxRowsModel") ∈ wT := wk (lwt_4 (List.mem_of_getElem? (i := 222) (by decide +kernel))) rfl
set_option maxRecDepth 20000 in
theorem k988 : (Jvm.Cond.instantiable "FaxRowsModel" (31 : Nat)) ∈ wT := wk (lwt_4 (List.mem_of_getElem? (i := 223) (by decide +kernel))) rfl
set_option maxRecDepth 20000 in
theorem k989 : (Jvm.Cond.methodLink "FaxRowsLaw" (26 : Nat) ({ cls := "FaxRowsModel", name := "<init>", desc := "(II)V" } : Jvm.MethodName)) ∈ wT := wk (lwt_4 (List.mem_of_getElem? (i := 224) (by decide +kernel))) rfl
set_option maxRecDepth 20000 in
theorem k990 : (Jvm.Cond.instanceMethod ({ cls := "FaxRowsModel", name := "<init>", desc := "(II)V" } : Jvm.MethodName)) ∈ wT := wk (lwt_4 (List.mem_of_getElem? (i := 225) (by decide +kernel))) rfl
set_option maxRecDepth 20000 in
theorem k991 : (Jvm.Cond.code ({ cls := "FaxRowsModel", name := "<init>", desc := "(II)V" } : Jvm.MethodName) prog_10_method_1_code (4 : Nat) (Option.none : Option Jvm.ClassFile.FieldType)) ∈ wT := wk (lwt_4 (List.mem_of_getElem? (i := 226) rfl)) rfl
set_option maxRecDepth 20000 in
theorem k992 : (Jvm.Cond.methodLink "FaxRowsModel" (1 : Nat) ({ cls := "java/lang/Object", name := "<init>", desc := "()V" } : Jvm.MethodName)) ∈ wT := wk (lwt_4 (List.mem_of_getElem? (i := 227) (by decide +kernel))) rfl
set_option maxRecDepth 20000 in
theorem k993 : (Jvm.Cond.constant "FaxRowsModel" (35 : Nat) (72000 : Int32)) ∈ wT := wk (lwt_4 (List.mem_of_getElem? (i := 228) (by decide +kernel))) rfl
set_option maxRecDepth 20000 in
theorem k994 : (Jvm.Cond.constant "FaxRowsModel" (45 : Nat) (75000 : Int32)) ∈ wT := wk (lwt_4 (List.mem_of_getElem? (i := 229) (by decide +kernel))) rfl
set_option maxRecDepth 20000 in
theorem k995 : (Jvm.Cond.constant "FaxRowsModel" (52 : Nat) (75100 : Int32)) ∈ wT := wk (lwt_4 (List.mem_of_getElem? (i := 230) (by decide +kernel))) rfl
set_option maxRecDepth 20000 in
theorem k996 : (Jvm.Cond.fieldLink "FaxRowsModel" (7 : Nat) "FaxRowsModel" "whites" "[I") ∈ wT := wk (lwt_4 (List.mem_of_getElem? (i := 231) (by decide +kernel))) rfl
set_option maxRecDepth 20000 in
theorem k997 : (Jvm.Cond.fieldLink "FaxRowsModel" (13 : Nat) "FaxRowsModel" "blacks" "[I") ∈ wT := wk (lwt_4 (List.mem_of_getElem? (i := 232) (by decide +kernel))) rfl
set_option maxRecDepth 20000 in
theorem k998 : (Jvm.Cond.fieldLink "FaxRowsModel" (16 : Nat) "FaxRowsModel" "whiteMore" "[I") ∈ wT := wk (lwt_4 (List.mem_of_getElem? (i := 233) (by decide +kernel))) rfl
set_option maxRecDepth 20000 in
theorem k999 : (Jvm.Cond.fieldLink "FaxRowsModel" (19 : Nat) "FaxRowsModel" "blackMore" "[I") ∈ wT := wk (lwt_4 (List.mem_of_getElem? (i := 234) (by decide +kernel))) rfl
set_option maxRecDepth 20000 in
theorem k1000 : (Jvm.Cond.fieldLink "FaxRowsModel" (22 : Nat) "FaxRowsModel" "bothMore" "[I") ∈ wT := wk (lwt_4 (List.mem_of_getElem? (i := 235) (by decide +kernel))) rfl
set_option maxRecDepth 20000 in
theorem k1001 : (Jvm.Cond.fieldLink "FaxRowsModel" (25 : Nat) "FaxRowsModel" "whiteRuns" "[I") ∈ wT := wk (lwt_4 (List.mem_of_getElem? (i := 236) (by decide +kernel))) rfl
set_option maxRecDepth 20000 in
theorem k1002 : (Jvm.Cond.fieldLink "FaxRowsModel" (28 : Nat) "FaxRowsModel" "blackRuns" "[I") ∈ wT := wk (lwt_4 (List.mem_of_getElem? (i := 237) (by decide +kernel))) rfl
set_option maxRecDepth 20000 in
theorem k1003 : (Jvm.Cond.fieldLink "FaxRowsModel" (66 : Nat) "FaxRowsModel" "code" "I") ∈ wT := wk (lwt_4 (List.mem_of_getElem? (i := 238) (by decide +kernel))) rfl
set_option maxRecDepth 20000 in
theorem k1004 : (Jvm.Cond.fieldLink "FaxRowsModel" (59 : Nat) "FaxRowsModel" "kind" "I") ∈ wT := wk (lwt_4 (List.mem_of_getElem? (i := 239) (by decide +kernel))) rfl
set_option maxRecDepth 20000 in
theorem k1005 : (Jvm.Cond.fieldLink "FaxRowsModel" (63 : Nat) "FaxRowsModel" "width" "I") ∈ wT := wk (lwt_5 (List.mem_of_getElem? (i := 0) (by decide +kernel))) rfl
set_option maxRecDepth 20000 in
theorem k1006 : (Jvm.Cond.fieldLink "FaxRowsModel" (31 : Nat) "FaxRowsModel" "made" "[Z") ∈ wT := wk (lwt_5 (List.mem_of_getElem? (i := 1) (by decide +kernel))) rfl
set_option maxRecDepth 20000 in
theorem k1007 : (Jvm.Cond.fieldLink "FaxRowsModel" (36 : Nat) "FaxRowsModel" "given" "[Z") ∈ wT := wk (lwt_5 (List.mem_of_getElem? (i := 2) (by decide +kernel))) rfl
set_option maxRecDepth 20000 in
theorem k1008 : (Jvm.Cond.fieldLink "FaxRowsModel" (69 : Nat) "FaxRowsModel" "givenRows" "I") ∈ wT := wk (lwt_5 (List.mem_of_getElem? (i := 3) (by decide +kernel))) rfl
set_option maxRecDepth 20000 in
theorem k1009 : (Jvm.Cond.fieldLink "FaxRowsModel" (39 : Nat) "FaxRowsModel" "written" "[I") ∈ wT := wk (lwt_5 (List.mem_of_getElem? (i := 4) (by decide +kernel))) rfl
set_option maxRecDepth 20000 in
theorem k1010 : (Jvm.Cond.fieldLink "FaxRowsModel" (72 : Nat) "FaxRowsModel" "writtenBits" "I") ∈ wT := wk (lwt_5 (List.mem_of_getElem? (i := 5) (by decide +kernel))) rfl
set_option maxRecDepth 20000 in
theorem k1011 : (Jvm.Cond.fieldLink "FaxRowsModel" (108 : Nat) "FaxRowsModel" "isWritten" "Z") ∈ wT := wk (lwt_5 (List.mem_of_getElem? (i := 6) (by decide +kernel))) rfl
set_option maxRecDepth 20000 in
theorem k1012 : (Jvm.Cond.fieldLink "FaxRowsModel" (42 : Nat) "FaxRowsModel" "fed" "[I") ∈ wT := wk (lwt_5 (List.mem_of_getElem? (i := 7) (by decide +kernel))) rfl
set_option maxRecDepth 20000 in
theorem k1013 : (Jvm.Cond.fieldLink "FaxRowsModel" (123 : Nat) "FaxRowsModel" "fedBytes" "I") ∈ wT := wk (lwt_5 (List.mem_of_getElem? (i := 8) (by decide +kernel))) rfl
set_option maxRecDepth 20000 in
theorem k1014 : (Jvm.Cond.fieldLink "FaxRowsModel" (120 : Nat) "FaxRowsModel" "fill" "I") ∈ wT := wk (lwt_5 (List.mem_of_getElem? (i := 9) (by decide +kernel))) rfl
set_option maxRecDepth 20000 in
theorem k1015 : (Jvm.Cond.fieldLink "FaxRowsModel" (171 : Nat) "FaxRowsModel" "rule" "I") ∈ wT := wk (lwt_5 (List.mem_of_getElem? (i := 10) (by decide +kernel))) rfl
set_option maxRecDepth 20000 in
theorem k1016 : (Jvm.Cond.fieldLink "FaxRowsModel" (75 : Nat) "FaxRowsModel" "low" "Z") ∈ wT := wk (lwt_5 (List.mem_of_getElem? (i := 11) (by decide +kernel))) rfl
set_option maxRecDepth 20000 in
theorem k1017 : (Jvm.Cond.fieldLink "FaxRowsModel" (46 : Nat) "FaxRowsModel" "rows" "[Z") ∈ wT := wk (lwt_5 (List.mem_of_getElem? (i := 12) (by decide +kernel))) rfl
set_option maxRecDepth 20000 in
theorem k1018 : (Jvm.Cond.fieldLink "FaxRowsModel" (49 : Nat) "FaxRowsModel" "hurt" "[Z") ∈ wT := wk (lwt_5 (List.mem_of_getElem? (i := 13) (by decide +kernel))) rfl
set_option maxRecDepth 20000 in
theorem k1019 : (Jvm.Cond.fieldLink "FaxRowsModel" (53 : Nat) "FaxRowsModel" "modes" "[I") ∈ wT := wk (lwt_5 (List.mem_of_getElem? (i := 14) (by decide +kernel))) rfl
set_option maxRecDepth 20000 in
theorem k1020 : (Jvm.Cond.fieldLink "FaxRowsModel" (56 : Nat) "FaxRowsModel" "modeCount" "[I") ∈ wT := wk (lwt_5 (List.mem_of_getElem? (i := 15) (by decide +kernel))) rfl
set_option maxRecDepth 20000 in
theorem k1021 : (Jvm.Cond.fieldLink "FaxRowsModel" (184 : Nat) "FaxRowsModel" "readRows" "I") ∈ wT := wk (lwt_5 (List.mem_of_getElem? (i := 16) (by decide +kernel))) rfl
set_option maxRecDepth 20000 in
theorem k1022 : (Jvm.Cond.fieldLink "FaxRowsModel" (139 : Nat) "FaxRowsModel" "at" "I") ∈ wT := wk (lwt_5 (List.mem_of_getElem? (i := 17) (by decide +kernel))) rfl
set_option maxRecDepth 20000 in
theorem k1023 : (Jvm.Cond.fieldLink "FaxRowsModel" (129 : Nat) "FaxRowsModel" "bits" "I") ∈ wT := wk (lwt_5 (List.mem_of_getElem? (i := 18) (by decide +kernel))) rfl
set_option maxRecDepth 20000 in
theorem k1024 : (Jvm.Cond.fieldLink "FaxRowsModel" (126 : Nat) "FaxRowsModel" "fromFed" "Z") ∈ wT := wk (lwt_5 (List.mem_of_getElem? (i := 19) (by decide +kernel))) rfl
set_option maxRecDepth 20000 in
theorem k1025 : (Jvm.Cond.fieldLink "FaxRowsModel" (142 : Nat) "FaxRowsModel" "bad" "Z") ∈ wT := wk (lwt_5 (List.mem_of_getElem? (i := 20) (by decide +kernel))) rfl
set_option maxRecDepth 20000 in
theorem k1026 : (Jvm.Cond.fieldLink "FaxRowsModel" (157 : Nat) "FaxRowsModel" "extension" "Z") ∈ wT := wk (lwt_5 (List.mem_of_getElem? (i := 21) (by decide +kernel))) rfl
set_option maxRecDepth 20000 in
theorem k1090 : (Jvm.Cond.methodLink "FaxRowsLaw" (31 : Nat) ({ cls := "FaxRowsModel", name := "put", desc := "(IZ)Z" } : Jvm.MethodName)) ∈ wT := wk (lwt_5 (List.mem_of_getElem? (i := 85) (by decide +kernel))) rfl
set_option maxRecDepth 20000 in
theorem k1091 : (Jvm.Cond.instanceMethod ({ cls := "FaxRowsModel", name := "put", desc := "(IZ)Z" } : Jvm.MethodName)) ∈ wT := wk (lwt_5 (List.mem_of_getElem? (i := 86) (by decide +kernel))) rfl
set_option maxRecDepth 20000 in
theorem k1092 : (Jvm.Cond.selects "FaxRowsModel" ({ cls := "FaxRowsModel", name := "put", desc := "(IZ)Z" } : Jvm.MethodName) ({ cls := "FaxRowsModel", name := "put", desc := "(IZ)Z" } : Jvm.MethodName)) ∈ wT := wk (lwt_5 (List.mem_of_getElem? (i := 87) (by decide +kernel))) rfl
set_option maxRecDepth 20000 in
theorem k1093 : (Jvm.Cond.code ({ cls := "FaxRowsModel", name := "put", desc := "(IZ)Z" } : Jvm.MethodName) prog_10_method_3_code (3 : Nat) (Option.some Jvm.ClassFile.FieldType.boolean)) ∈ wT := wk (lwt_5 (List.mem_of_getElem? (i := 88) rfl)) rfl
set_option maxRecDepth 20000 in
theorem k1094 : (Jvm.Cond.methodLink "FaxRowsLaw" (36 : Nat) ({ cls := "FaxRowsModel", name := "endRow", desc := "()Z" } : Jvm.MethodName)) ∈ wT := wk (lwt_5 (List.mem_of_getElem? (i := 89) (by decide +kernel))) rfl
set_option maxRecDepth 20000 in
theorem k1095 : (Jvm.Cond.instanceMethod ({ cls := "FaxRowsModel", name := "endRow", desc := "()Z" } : Jvm.MethodName)) ∈ wT := wk (lwt_5 (List.mem_of_getElem? (i := 90) (by decide +kernel))) rfl
set_option maxRecDepth 20000 in
theorem k1096 : (Jvm.Cond.selects "FaxRowsModel" ({ cls := "FaxRowsModel", name := "endRow", desc := "()Z" } : Jvm.MethodName) ({ cls := "FaxRowsModel", name := "endRow", desc := "()Z" } : Jvm.MethodName)) ∈ wT := wk (lwt_5 (List.mem_of_getElem? (i := 91) (by decide +kernel))) rfl
set_option maxRecDepth 20000 in
theorem k1097 : (Jvm.Cond.code ({ cls := "FaxRowsModel", name := "endRow", desc := "()Z" } : Jvm.MethodName) prog_10_method_4_code (2 : Nat) (Option.some Jvm.ClassFile.FieldType.boolean)) ∈ wT := wk (lwt_5 (List.mem_of_getElem? (i := 92) rfl)) rfl
set_option maxRecDepth 20000 in
theorem k1098 : (Jvm.Cond.methodLink "FaxRowsLaw" (41 : Nat) ({ cls := "FaxRowsModel", name := "encode", desc := "()I" } : Jvm.MethodName)) ∈ wT := wk (lwt_5 (List.mem_of_getElem? (i := 93) (by decide +kernel))) rfl
set_option maxRecDepth 20000 in
theorem k1099 : (Jvm.Cond.instanceMethod ({ cls := "FaxRowsModel", name := "encode", desc := "()I" } : Jvm.MethodName)) ∈ wT := wk (lwt_5 (List.mem_of_getElem? (i := 94) (by decide +kernel))) rfl
set_option maxRecDepth 20000 in
theorem k1100 : (Jvm.Cond.selects "FaxRowsModel" ({ cls := "FaxRowsModel", name := "encode", desc := "()I" } : Jvm.MethodName) ({ cls := "FaxRowsModel", name := "encode", desc := "()I" } : Jvm.MethodName)) ∈ wT := wk (lwt_5 (List.mem_of_getElem? (i := 95) (by decide +kernel))) rfl
set_option maxRecDepth 20000 in
theorem k1101 : (Jvm.Cond.code ({ cls := "FaxRowsModel", name := "encode", desc := "()I" } : Jvm.MethodName) prog_10_method_16_code (4 : Nat) (Option.some Jvm.ClassFile.FieldType.int)) ∈ wT := wk (lwt_5 (List.mem_of_getElem? (i := 96) rfl)) rfl
set_option maxRecDepth 20000 in
theorem k1102 : (Jvm.Cond.methodLink "FaxRowsModel" (111 : Nat) ({ cls := "FaxRowsModel", name := "mark", desc := "()V" } : Jvm.MethodName)) ∈ wT := wk (lwt_5 (List.mem_of_getElem? (i := 97) (by decide +kernel))) rfl
set_option maxRecDepth 20000 in
theorem k1104 : (Jvm.Cond.instanceMethod ({ cls := "FaxRowsModel", name := "mark", desc := "()V" } : Jvm.MethodName)) ∈ wT := wk (lwt_5 (List.mem_of_getElem? (i := 99) (by decide +kernel))) rfl
set_option maxRecDepth 20000 in
theorem k1105 : (Jvm.Cond.code ({ cls := "FaxRowsModel", name := "mark", desc := "()V" } : Jvm.MethodName) prog_10_method_8_code (1 : Nat) (Option.none : Option Jvm.ClassFile.FieldType)) ∈ wT := wk (lwt_5 (List.mem_of_getElem? (i := 100) rfl)) rfl
set_option maxRecDepth 20000 in
theorem k1106 : (Jvm.Cond.methodLink "FaxRowsModel" (83 : Nat) ({ cls := "FaxRowsModel", name := "number", desc := "(II)V" } : Jvm.MethodName)) ∈ wT := wk (lwt_5 (List.mem_of_getElem? (i := 101) (by decide +kernel))) rfl
set_option maxRecDepth 20000 in
theorem k1108 : (Jvm.Cond.instanceMethod ({ cls := "FaxRowsModel", name := "number", desc := "(II)V" } : Jvm.MethodName)) ∈ wT := wk (lwt_5 (List.mem_of_getElem? (i := 103) (by decide +kernel))) rfl
set_option maxRecDepth 20000 in
theorem k1109 : (Jvm.Cond.code ({ cls := "FaxRowsModel", name := "number", desc := "(II)V" } : Jvm.MethodName) prog_10_method_6_code (4 : Nat) (Option.none : Option Jvm.ClassFile.FieldType)) ∈ wT := wk (lwt_5 (List.mem_of_getElem? (i := 104) rfl)) rfl
set_option maxRecDepth 20000 in
theorem k1110 : (Jvm.Cond.methodLink "FaxRowsModel" (79 : Nat) ({ cls := "FaxRowsModel", name := "bit", desc := "(I)V" } : Jvm.MethodName)) ∈ wT := wk (lwt_5 (List.mem_of_getElem? (i := 105) (by decide +kernel))) rfl
set_option maxRecDepth 20000 in
theorem k1112 : (Jvm.Cond.instanceMethod ({ cls := "FaxRowsModel", name := "bit", desc := "(I)V" } : Jvm.MethodName)) ∈ wT := wk (lwt_5 (List.mem_of_getElem? (i := 107) (by decide +kernel))) rfl
set_option maxRecDepth 20000 in
theorem k1113 : (Jvm.Cond.code ({ cls := "FaxRowsModel", name := "bit", desc := "(I)V" } : Jvm.MethodName) prog_10_method_5_code (4 : Nat) (Option.none : Option Jvm.ClassFile.FieldType)) ∈ wT := wk (lwt_5 (List.mem_of_getElem? (i := 108) rfl)) rfl
set_option maxRecDepth 20000 in
theorem k1114 : (Jvm.Cond.methodLink "FaxRowsModel" (114 : Nat) ({ cls := "FaxRowsModel", name := "oneDimension", desc := "(I)V" } : Jvm.MethodName)) ∈ wT := wk (lwt_5 (List.mem_of_getElem? (i := 109) (by decide +kernel))) rfl
set_option maxRecDepth 20000 in
theorem k1116 : (Jvm.Cond.instanceMethod ({ cls := "FaxRowsModel", name := "oneDimension", desc := "(I)V" } : Jvm.MethodName)) ∈ wT := wk (lwt_5 (List.mem_of_getElem? (i := 111) (by decide +kernel))) rfl
set_option maxRecDepth 20000 in
theorem k1117 : (Jvm.Cond.code ({ cls := "FaxRowsModel", name := "oneDimension", desc := "(I)V" } : Jvm.MethodName) prog_10_method_11_code (5 : Nat) (Option.none : Option Jvm.ClassFile.FieldType)) ∈ wT := wk (lwt_5 (List.mem_of_getElem? (i := 112) rfl)) rfl
set_option maxRecDepth 20000 in
theorem k1118 : (Jvm.Cond.methodLink "FaxRowsModel" (90 : Nat) ({ cls := "FaxRowsModel", name := "run", desc := "(IZ)V" } : Jvm.MethodName)) ∈ wT := wk (lwt_5 (List.mem_of_getElem? (i := 113) (by decide +kernel))) rfl
set_option maxRecDepth 20000 in
theorem k1120 : (Jvm.Cond.instanceMethod ({ cls := "FaxRowsModel", name := "run", desc := "(IZ)V" } : Jvm.MethodName)) ∈ wT := wk (lwt_5 (List.mem_of_getElem? (i := 115) (by decide +kernel))) rfl
set_option maxRecDepth 20000 in
theorem k1121 : (Jvm.Cond.code ({ cls := "FaxRowsModel", name := "run", desc := "(IZ)V" } : Jvm.MethodName) prog_10_method_9_code (4 : Nat) (Option.none : Option Jvm.ClassFile.FieldType)) ∈ wT := wk (lwt_5 (List.mem_of_getElem? (i := 116) rfl)) rfl
set_option maxRecDepth 20000 in
theorem k1122 : (Jvm.Cond.methodLink "FaxRowsModel" (87 : Nat) ({ cls := "FaxRowsModel", name := "write", desc := "(I)V" } : Jvm.MethodName)) ∈ wT := wk (lwt_5 (List.mem_of_getElem? (i := 117) (by decide +kernel))) rfl
set_option maxRecDepth 20000 in
theorem k1124 : (Jvm.Cond.instanceMethod ({ cls := "FaxRowsModel", name := "write", desc := "(I)V" } : Jvm.MethodName)) ∈ wT := wk (lwt_5 (List.mem_of_getElem? (i := 119) (by decide +kernel))) rfl
set_option maxRecDepth 20000 in
theorem k1125 : (Jvm.Cond.code ({ cls := "FaxRowsModel", name := "write", desc := "(I)V" } : Jvm.MethodName) prog_10_method_7_code (3 : Nat) (Option.none : Option Jvm.ClassFile.FieldType)) ∈ wT := wk (lwt_5 (List.mem_of_getElem? (i := 120) rfl)) rfl
set_option maxRecDepth 20000 in
theorem k1126 : (Jvm.Cond.methodLink "FaxRowsModel" (117 : Nat) ({ cls := "FaxRowsModel", name := "twoDimensions", desc := "(II)V" } : Jvm.MethodName)) ∈ wT := wk (lwt_5 (List.mem_of_getElem? (i := 121) (by decide +kernel))) rfl
set_option maxRecDepth 20000 in
theorem k1128 : (Jvm.Cond.instanceMethod ({ cls := "FaxRowsModel", name := "twoDimensions", desc := "(II)V" } : Jvm.MethodName)) ∈ wT := wk (lwt_5 (List.mem_of_getElem? (i := 123) (by decide +kernel))) rfl
set_option maxRecDepth 20000 in
theorem k1129 : (Jvm.Cond.code ({ cls := "FaxRowsModel", name := "twoDimensions", desc := "(II)V" } : Jvm.MethodName) prog_10_method_14_code (9 : Nat) (Option.none : Option Jvm.ClassFile.FieldType)) ∈ wT := wk (lwt_5 (List.mem_of_getElem? (i := 124) rfl)) rfl
set_option maxRecDepth 20000 in
theorem k1130 : (Jvm.Cond.methodLink "FaxRowsModel" (94 : Nat) ({ cls := "FaxRowsModel", name := "change", desc := "([ZII)I" } : Jvm.MethodName)) ∈ wT := wk (lwt_5 (List.mem_of_getElem? (i := 125) (by decide +kernel))) rfl
set_option maxRecDepth 20000 in
theorem k1132 : (Jvm.Cond.instanceMethod ({ cls := "FaxRowsModel", name := "change", desc := "([ZII)I" } : Jvm.MethodName)) ∈ wT := wk (lwt_5 (List.mem_of_getElem? (i := 127) (by decide +kernel))) rfl
set_option maxRecDepth 20000 in
theorem k1133 : (Jvm.Cond.code ({ cls := "FaxRowsModel", name := "change", desc := "([ZII)I" } : Jvm.MethodName) prog_10_method_10_code (5 : Nat) (Option.some Jvm.ClassFile.FieldType.int)) ∈ wT := wk (lwt_5 (List.mem_of_getElem? (i := 128) rfl)) rfl
set_option maxRecDepth 20000 in
theorem k1134 : (Jvm.Cond.methodLink "FaxRowsModel" (98 : Nat) ({ cls := "FaxRowsModel", name := "b1", desc := "([ZIIZ)I" } : Jvm.MethodName)) ∈ wT := wk (lwt_5 (List.mem_of_getElem? (i := 129) (by decide +kernel))) rfl
set_option maxRecDepth 20000 in
theorem k1136 : (Jvm.Cond.instanceMethod ({ cls := "FaxRowsModel", name := "b1", desc := "([ZIIZ)I" } : Jvm.MethodName)) ∈ wT := wk (lwt_5 (List.mem_of_getElem? (i := 131) (by decide +kernel))) rfl
set_option maxRecDepth 20000 in
theorem k1137 : (Jvm.Cond.code ({ cls := "FaxRowsModel", name := "b1", desc := "([ZIIZ)I" } : Jvm.MethodName) prog_10_method_12_code (6 : Nat) (Option.some Jvm.ClassFile.FieldType.int)) ∈ wT := wk (lwt_5 (List.mem_of_getElem? (i := 132) rfl)) rfl
set_option maxRecDepth 20000 in
theorem k1138 : (Jvm.Cond.methodLink "FaxRowsModel" (102 : Nat) ({ cls := "FaxRowsModel", name := "b2", desc := "([ZII)I" } : Jvm.MethodName)) ∈ wT := wk (lwt_5 (List.mem_of_getElem? (i := 133) (by decide +kernel))) rfl
set_option maxRecDepth 20000 in
theorem k1140 : (Jvm.Cond.instanceMethod ({ cls := "FaxRowsModel", name := "b2", desc := "([ZII)I" } : Jvm.MethodName)) ∈ wT := wk (lwt_5 (List.mem_of_getElem? (i := 135) (by decide +kernel))) rfl
set_option maxRecDepth 20000 in
theorem k1141 : (Jvm.Cond.code ({ cls := "FaxRowsModel", name := "b2", desc := "([ZII)I" } : Jvm.MethodName) prog_10_method_13_code (4 : Nat) (Option.some Jvm.ClassFile.FieldType.int)) ∈ wT := wk (lwt_5 (List.mem_of_getElem? (i := 136) rfl)) rfl
set_option maxRecDepth 20000 in
theorem k1142 : (Jvm.Cond.methodLink "FaxRowsModel" (105 : Nat) ({ cls := "FaxRowsModel", name := "vertical", desc := "(I)V" } : Jvm.MethodName)) ∈ wT := wk (lwt_5 (List.mem_of_getElem? (i := 137) (by decide +kernel))) rfl
set_option maxRecDepth 20000 in
theorem k1144 : (Jvm.Cond.instanceMethod ({ cls := "FaxRowsModel", name := "vertical", desc := "(I)V" } : Jvm.MethodName)) ∈ wT := wk (lwt_5 (List.mem_of_getElem? (i := 139) (by decide +kernel))) rfl
set_option maxRecDepth 20000 in
theorem k1145 : (Jvm.Cond.code ({ cls := "FaxRowsModel", name := "vertical", desc := "(I)V" } : Jvm.MethodName) prog_10_method_15_code (3 : Nat) (Option.none : Option Jvm.ClassFile.FieldType)) ∈ wT := wk (lwt_5 (List.mem_of_getElem? (i := 140) rfl)) rfl
set_option maxRecDepth 20000 in
theorem k1146 : (Jvm.Cond.methodLink "FaxRowsLaw" (46 : Nat) ({ cls := "FaxRowsModel", name := "byteAt", desc := "(I)I" } : Jvm.MethodName)) ∈ wT := wk (lwt_5 (List.mem_of_getElem? (i := 141) (by decide +kernel))) rfl
set_option maxRecDepth 20000 in
theorem k1147 : (Jvm.Cond.instanceMethod ({ cls := "FaxRowsModel", name := "byteAt", desc := "(I)I" } : Jvm.MethodName)) ∈ wT := wk (lwt_5 (List.mem_of_getElem? (i := 142) (by decide +kernel))) rfl
set_option maxRecDepth 20000 in
theorem k1148 : (Jvm.Cond.selects "FaxRowsModel" ({ cls := "FaxRowsModel", name := "byteAt", desc := "(I)I" } : Jvm.MethodName) ({ cls := "FaxRowsModel", name := "byteAt", desc := "(I)I" } : Jvm.MethodName)) ∈ wT := wk (lwt_5 (List.mem_of_getElem? (i := 143) (by decide +kernel))) rfl
set_option maxRecDepth 20000 in
theorem k1149 : (Jvm.Cond.code ({ cls := "FaxRowsModel", name := "byteAt", desc := "(I)I" } : Jvm.MethodName) prog_10_method_17_code (2 : Nat) (Option.some Jvm.ClassFile.FieldType.int)) ∈ wT := wk (lwt_5 (List.mem_of_getElem? (i := 144) rfl)) rfl
set_option maxRecDepth 20000 in
theorem k1150 : (Jvm.Cond.methodLink "FaxRowsLaw" (51 : Nat) ({ cls := "FaxRowsModel", name := "feed", desc := "(I)Z" } : Jvm.MethodName)) ∈ wT := wk (lwt_5 (List.mem_of_getElem? (i := 145) (by decide +kernel))) rfl
set_option maxRecDepth 20000 in
theorem k1151 : (Jvm.Cond.instanceMethod ({ cls := "FaxRowsModel", name := "feed", desc := "(I)Z" } : Jvm.MethodName)) ∈ wT := wk (lwt_5 (List.mem_of_getElem? (i := 146) (by decide +kernel))) rfl
set_option maxRecDepth 20000 in
theorem k1152 : (Jvm.Cond.selects "FaxRowsModel" ({ cls := "FaxRowsModel", name := "feed", desc := "(I)Z" } : Jvm.MethodName) ({ cls := "FaxRowsModel", name := "feed", desc := "(I)Z" } : Jvm.MethodName)) ∈ wT := wk (lwt_5 (List.mem_of_getElem? (i := 147) (by decide +kernel))) rfl
set_option maxRecDepth 20000 in
theorem k1153 : (Jvm.Cond.code ({ cls := "FaxRowsModel", name := "feed", desc := "(I)Z" } : Jvm.MethodName) prog_10_method_18_code (2 : Nat) (Option.some Jvm.ClassFile.FieldType.boolean)) ∈ wT := wk (lwt_5 (List.mem_of_getElem? (i := 148) rfl)) rfl
set_option maxRecDepth 20000 in
theorem k1154 : (Jvm.Cond.methodLink "FaxRowsLaw" (55 : Nat) ({ cls := "FaxRowsModel", name := "decode", desc := "()I" } : Jvm.MethodName)) ∈ wT := wk (lwt_5 (List.mem_of_getElem? (i := 149) (by decide +kernel))) rfl
set_option maxRecDepth 20000 in
theorem k1155 : (Jvm.Cond.instanceMethod ({ cls := "FaxRowsModel", name := "decode", desc := "()I" } : Jvm.MethodName)) ∈ wT := wk (lwt_5 (List.mem_of_getElem? (i := 150) (by decide +kernel))) rfl
set_option maxRecDepth 20000 in
theorem k1156 : (Jvm.Cond.selects "FaxRowsModel" ({ cls := "FaxRowsModel", name := "decode", desc := "()I" } : Jvm.MethodName) ({ cls := "FaxRowsModel", name := "decode", desc := "()I" } : Jvm.MethodName)) ∈ wT := wk (lwt_5 (List.mem_of_getElem? (i := 151) (by decide +kernel))) rfl
set_option maxRecDepth 20000 in
theorem k1157 : (Jvm.Cond.code ({ cls := "FaxRowsModel", name := "decode", desc := "()I" } : Jvm.MethodName) prog_10_method_32_code (2 : Nat) (Option.some Jvm.ClassFile.FieldType.int)) ∈ wT := wk (lwt_5 (List.mem_of_getElem? (i := 152) rfl)) rfl
set_option maxRecDepth 20000 in
theorem k1158 : (Jvm.Cond.methodLink "FaxRowsModel" (187 : Nat) ({ cls := "FaxRowsModel", name := "readUnmarked", desc := "()I" } : Jvm.MethodName)) ∈ wT := wk (lwt_5 (List.mem_of_getElem? (i := 153) (by decide +kernel))) rfl
set_option maxRecDepth 20000 in
theorem k1160 : (Jvm.Cond.instanceMethod ({ cls := "FaxRowsModel", name := "readUnmarked", desc := "()I" } : Jvm.MethodName)) ∈ wT := wk (lwt_5 (List.mem_of_getElem? (i := 155) (by decide +kernel))) rfl
set_option maxRecDepth 20000 in
theorem k1161 : (Jvm.Cond.code ({ cls := "FaxRowsModel", name := "readUnmarked", desc := "()I" } : Jvm.MethodName) prog_10_method_31_code (2 : Nat) (Option.some Jvm.ClassFile.FieldType.int)) ∈ wT := wk (lwt_5 (List.mem_of_getElem? (i := 156) rfl)) rfl
set_option maxRecDepth 20000 in
theorem k1162 : (Jvm.Cond.methodLink "FaxRowsModel" (180 : Nat) ({ cls := "FaxRowsModel", name := "isEnd", desc := "()Z" } : Jvm.MethodName)) ∈ wT := wk (lwt_5 (List.mem_of_getElem? (i := 157) (by decide +kernel))) rfl
set_option maxRecDepth 20000 in
theorem k1164 : (Jvm.Cond.instanceMethod ({ cls := "FaxRowsModel", name := "isEnd", desc := "()Z" } : Jvm.MethodName)) ∈ wT := wk (lwt_5 (List.mem_of_getElem? (i := 159) (by decide +kernel))) rfl
set_option maxRecDepth 20000 in
theorem k1165 : (Jvm.Cond.code ({ cls := "FaxRowsModel", name := "isEnd", desc := "()Z" } : Jvm.MethodName) prog_10_method_30_code (3 : Nat) (Option.some Jvm.ClassFile.FieldType.boolean)) ∈ wT := wk (lwt_5 (List.mem_of_getElem? (i := 160) rfl)) rfl
set_option maxRecDepth 20000 in
theorem k1166 : (Jvm.Cond.methodLink "FaxRowsModel" (132 : Nat) ({ cls := "FaxRowsModel", name := "bitAt", desc := "(I)I" } : Jvm.MethodName)) ∈ wT := wk (lwt_5 (List.mem_of_getElem? (i := 161) (by decide +kernel))) rfl
set_option maxRecDepth 20000 in
theorem k1168 : (Jvm.Cond.instanceMethod ({ cls := "FaxRowsModel", name := "bitAt", desc := "(I)I" } : Jvm.MethodName)) ∈ wT := wk (lwt_5 (List.mem_of_getElem? (i := 163) (by decide +kernel))) rfl
set_option maxRecDepth 20000 in
theorem k1169 : (Jvm.Cond.code ({ cls := "FaxRowsModel", name := "bitAt", desc := "(I)I" } : Jvm.MethodName) prog_10_method_19_code (3 : Nat) (Option.some Jvm.ClassFile.FieldType.int)) ∈ wT := wk (lwt_5 (List.mem_of_getElem? (i := 164) rfl)) rfl
set_option maxRecDepth 20000 in
theorem k1170 : (Jvm.Cond.methodLink "FaxRowsModel" (177 : Nat) ({ cls := "FaxRowsModel", name := "readRow", desc := "(IZ)V" } : Jvm.MethodName)) ∈ wT := wk (lwt_5 (List.mem_of_getElem? (i := 165) (by decide +kernel))) rfl
set_option maxRecDepth 20000 in
theorem k1172 : (Jvm.Cond.instanceMethod ({ cls := "FaxRowsModel", name := "readRow", desc := "(IZ)V" } : Jvm.MethodName)) ∈ wT := wk (lwt_5 (List.mem_of_getElem? (i := 167) (by decide +kernel))) rfl
set_option maxRecDepth 20000 in
theorem k1173 : (Jvm.Cond.code ({ cls := "FaxRowsModel", name := "readRow", desc := "(IZ)V" } : Jvm.MethodName) prog_10_method_28_code (6 : Nat) (Option.none : Option Jvm.ClassFile.FieldType)) ∈ wT := wk (lwt_5 (List.mem_of_getElem? (i := 168) rfl)) rfl
set_option maxRecDepth 20000 in
theorem k1174 : (Jvm.Cond.methodLink "FaxRowsModel" (153 : Nat) ({ cls := "FaxRowsModel", name := "paint", desc := "(IIIZ)V" } : Jvm.MethodName)) ∈ wT := wk (lwt_5 (List.mem_of_getElem? (i := 169) (by decide +kernel))) rfl
set_option maxRecDepth 20000 in
theorem k1176 : (Jvm.Cond.instanceMethod ({ cls := "FaxRowsModel", name := "paint", desc := "(IIIZ)V" } : Jvm.MethodName)) ∈ wT := wk (lwt_5 (List.mem_of_getElem? (i := 171) (by decide +kernel))) rfl
set_option maxRecDepth 20000 in
theorem k1177 : (Jvm.Cond.code ({ cls := "FaxRowsModel", name := "paint", desc := "(IIIZ)V" } : Jvm.MethodName) prog_10_method_24_code (6 : Nat) (Option.none : Option Jvm.ClassFile.FieldType)) ∈ wT := wk (lwt_5 (List.mem_of_getElem? (i := 172) rfl)) rfl
set_option maxRecDepth 20000 in
theorem k1178 : (Jvm.Cond.methodLink "FaxRowsModel" (164 : Nat) ({ cls := "FaxRowsModel", name := "readOne", desc := "(I)V" } : Jvm.MethodName)) ∈ wT := wk (lwt_5 (List.mem_of_getElem? (i := 173) (by decide +kernel))) rfl
set_option maxRecDepth 20000 in
theorem k1180 : (Jvm.Cond.instanceMethod ({ cls := "FaxRowsModel", name := "readOne", desc := "(I)V" } : Jvm.MethodName)) ∈ wT := wk (lwt_5 (List.mem_of_getElem? (i := 175) (by decide +kernel))) rfl
set_option maxRecDepth 20000 in
theorem k1181 : (Jvm.Cond.code ({ cls := "FaxRowsModel", name := "readOne", desc := "(I)V" } : Jvm.MethodName) prog_10_method_25_code (5 : Nat) (Option.none : Option Jvm.ClassFile.FieldType)) ∈ wT := wk (lwt_5 (List.mem_of_getElem? (i := 176) rfl)) rfl
set_option maxRecDepth 20000 in
theorem k1182 : (Jvm.Cond.methodLink "FaxRowsModel" (149 : Nat) ({ cls := "FaxRowsModel", name := "readRun", desc := "(ZI)I" } : Jvm.MethodName)) ∈ wT := wk (lwt_5 (List.mem_of_getElem? (i := 177) (by decide +kernel))) rfl
set_option maxRecDepth 20000 in
theorem k1184 : (Jvm.Cond.instanceMethod ({ cls := "FaxRowsModel", name := "readRun", desc := "(ZI)I" } : Jvm.MethodName)) ∈ wT := wk (lwt_5 (List.mem_of_getElem? (i := 179) (by decide +kernel))) rfl
set_option maxRecDepth 20000 in
theorem k1185 : (Jvm.Cond.code ({ cls := "FaxRowsModel", name := "readRun", desc := "(ZI)I" } : Jvm.MethodName) prog_10_method_23_code (5 : Nat) (Option.some Jvm.ClassFile.FieldType.int)) ∈ wT := wk (lwt_5 (List.mem_of_getElem? (i := 180) rfl)) rfl
set_option maxRecDepth 20000 in
theorem k1186 : (Jvm.Cond.methodLink "FaxRowsModel" (145 : Nat) ({ cls := "FaxRowsModel", name := "runCode", desc := "(Z)I" } : Jvm.MethodName)) ∈ wT := wk (lwt_5 (List.mem_of_getElem? (i := 181) (by decide +kernel))) rfl
set_option maxRecDepth 20000 in
theorem k1188 : (Jvm.Cond.instanceMethod ({ cls := "FaxRowsModel", name := "runCode", desc := "(Z)I" } : Jvm.MethodName)) ∈ wT := wk (lwt_5 (List.mem_of_getElem? (i := 183) (by decide +kernel))) rfl
set_option maxRecDepth 20000 in
theorem k1189 : (Jvm.Cond.code ({ cls := "FaxRowsModel", name := "runCode", desc := "(Z)I" } : Jvm.MethodName) prog_10_method_22_code (5 : Nat) (Option.some Jvm.ClassFile.FieldType.int)) ∈ wT := wk (lwt_5 (List.mem_of_getElem? (i := 184) rfl)) rfl
set_option maxRecDepth 20000 in
theorem k1190 : (Jvm.Cond.methodLink "FaxRowsModel" (167 : Nat) ({ cls := "FaxRowsModel", name := "readTwo", desc := "(III)V" } : Jvm.MethodName)) ∈ wT := wk (lwt_5 (List.mem_of_getElem? (i := 185) (by decide +kernel))) rfl
set_option maxRecDepth 20000 in
theorem k1192 : (Jvm.Cond.instanceMethod ({ cls := "FaxRowsModel", name := "readTwo", desc := "(III)V" } : Jvm.MethodName)) ∈ wT := wk (lwt_5 (List.mem_of_getElem? (i := 187) (by decide +kernel))) rfl
set_option maxRecDepth 20000 in
theorem k1193 : (Jvm.Cond.code ({ cls := "FaxRowsModel", name := "readTwo", desc := "(III)V" } : Jvm.MethodName) prog_10_method_27_code (11 : Nat) (Option.none : Option Jvm.ClassFile.FieldType)) ∈ wT := wk (lwt_5 (List.mem_of_getElem? (i := 188) rfl)) rfl
set_option maxRecDepth 20000 in
theorem k1194 : (Jvm.Cond.methodLink "FaxRowsModel" (160 : Nat) ({ cls := "FaxRowsModel", name := "readMode", desc := "()I" } : Jvm.MethodName)) ∈ wT := wk (lwt_5 (List.mem_of_getElem? (i := 189) (by decide +kernel))) rfl
set_option maxRecDepth 20000 in
theorem k1196 : (Jvm.Cond.instanceMethod ({ cls := "FaxRowsModel", name := "readMode", desc := "()I" } : Jvm.MethodName)) ∈ wT := wk (lwt_5 (List.mem_of_getElem? (i := 191) (by decide +kernel))) rfl
set_option maxRecDepth 20000 in
theorem k1197 : (Jvm.Cond.code ({ cls := "FaxRowsModel", name := "readMode", desc := "()I" } : Jvm.MethodName) prog_10_method_26_code (4 : Nat) (Option.some Jvm.ClassFile.FieldType.int)) ∈ wT := wk (lwt_5 (List.mem_of_getElem? (i := 192) rfl)) rfl
set_option maxRecDepth 20000 in
theorem k1198 : (Jvm.Cond.methodLink "FaxRowsModel" (190 : Nat) ({ cls := "FaxRowsModel", name := "readMarked", desc := "()I" } : Jvm.MethodName)) ∈ wT := wk (lwt_5 (List.mem_of_getElem? (i := 193) (by decide +kernel))) rfl
set_option maxRecDepth 20000 in
theorem k1200 : (Jvm.Cond.instanceMethod ({ cls := "FaxRowsModel", name := "readMarked", desc := "()I" } : Jvm.MethodName)) ∈ wT := wk (lwt_5 (List.mem_of_getElem? (i := 195) (by decide +kernel))) rfl
set_option maxRecDepth 20000 in
theorem k1201 : (Jvm.Cond.code ({ cls := "FaxRowsModel", name := "readMarked", desc := "()I" } : Jvm.MethodName) prog_10_method_29_code (4 : Nat) (Option.some Jvm.ClassFile.FieldType.int)) ∈ wT := wk (lwt_5 (List.mem_of_getElem? (i := 196) rfl)) rfl
set_option maxRecDepth 20000 in
theorem k1202 : (Jvm.Cond.methodLink "FaxRowsModel" (174 : Nat) ({ cls := "FaxRowsModel", name := "findMark", desc := "(I)I" } : Jvm.MethodName)) ∈ wT := wk (lwt_5 (List.mem_of_getElem? (i := 197) (by decide +kernel))) rfl
set_option maxRecDepth 20000 in
theorem k1204 : (Jvm.Cond.instanceMethod ({ cls := "FaxRowsModel", name := "findMark", desc := "(I)I" } : Jvm.MethodName)) ∈ wT := wk (lwt_5 (List.mem_of_getElem? (i := 199) (by decide +kernel))) rfl
set_option maxRecDepth 20000 in
theorem k1205 : (Jvm.Cond.code ({ cls := "FaxRowsModel", name := "findMark", desc := "(I)I" } : Jvm.MethodName) prog_10_method_21_code (4 : Nat) (Option.some Jvm.ClassFile.FieldType.int)) ∈ wT := wk (lwt_5 (List.mem_of_getElem? (i := 200) rfl)) rfl
set_option maxRecDepth 20000 in
theorem k1206 : (Jvm.Cond.methodLink "FaxRowsModel" (136 : Nat) ({ cls := "FaxRowsModel", name := "behindMark", desc := "(I)I" } : Jvm.MethodName)) ∈ wT := wk (lwt_5 (List.mem_of_getElem? (i := 201) (by decide +kernel))) rfl
set_option maxRecDepth 20000 in
theorem k1208 : (Jvm.Cond.instanceMethod ({ cls := "FaxRowsModel", name := "behindMark", desc := "(I)I" } : Jvm.MethodName)) ∈ wT := wk (lwt_5 (List.mem_of_getElem? (i := 203) (by decide +kernel))) rfl
set_option maxRecDepth 20000 in
theorem k1209 : (Jvm.Cond.code ({ cls := "FaxRowsModel", name := "behindMark", desc := "(I)I" } : Jvm.MethodName) prog_10_method_20_code (3 : Nat) (Option.some Jvm.ClassFile.FieldType.int)) ∈ wT := wk (lwt_5 (List.mem_of_getElem? (i := 204) rfl)) rfl
set_option maxRecDepth 20000 in
theorem k1210 : (Jvm.Cond.methodLink "FaxRowsLaw" (59 : Nat) ({ cls := "FaxRowsModel", name := "at", desc := "(II)Z" } : Jvm.MethodName)) ∈ wT := wk (lwt_5 (List.mem_of_getElem? (i := 205) (by decide +kernel))) rfl
set_option maxRecDepth 20000 in
theorem k1211 : (Jvm.Cond.instanceMethod ({ cls := "FaxRowsModel", name := "at", desc := "(II)Z" } : Jvm.MethodName)) ∈ wT := wk (lwt_5 (List.mem_of_getElem? (i := 206) (by decide +kernel))) rfl
set_option maxRecDepth 20000 in
theorem k1212 : (Jvm.Cond.selects "FaxRowsModel" ({ cls := "FaxRowsModel", name := "at", desc := "(II)Z" } : Jvm.MethodName) ({ cls := "FaxRowsModel", name := "at", desc := "(II)Z" } : Jvm.MethodName)) ∈ wT := wk (lwt_5 (List.mem_of_getElem? (i := 207) (by decide +kernel))) rfl
set_option maxRecDepth 20000 in
theorem k1213 : (Jvm.Cond.code ({ cls := "FaxRowsModel", name := "at", desc := "(II)Z" } : Jvm.MethodName) prog_10_method_33_code (4 : Nat) (Option.some Jvm.ClassFile.FieldType.boolean)) ∈ wT := wk (lwt_5 (List.mem_of_getElem? (i := 208) rfl)) rfl
set_option maxRecDepth 20000 in
theorem k1214 : (Jvm.Cond.methodLink "FaxRowsLaw" (63 : Nat) ({ cls := "FaxRowsModel", name := "damaged", desc := "(I)Z" } : Jvm.MethodName)) ∈ wT := wk (lwt_5 (List.mem_of_getElem? (i := 209) (by decide +kernel))) rfl
set_option maxRecDepth 20000 in
theorem k1215 : (Jvm.Cond.instanceMethod ({ cls := "FaxRowsModel", name := "damaged", desc := "(I)Z" } : Jvm.MethodName)) ∈ wT := wk (lwt_5 (List.mem_of_getElem? (i := 210) (by decide +kernel))) rfl
set_option maxRecDepth 20000 in
theorem k1216 : (Jvm.Cond.selects "FaxRowsModel" ({ cls := "FaxRowsModel", name := "damaged", desc := "(I)Z" } : Jvm.MethodName) ({ cls := "FaxRowsModel", name := "damaged", desc := "(I)Z" } : Jvm.MethodName)) ∈ wT := wk (lwt_5 (List.mem_of_getElem? (i := 211) (by decide +kernel))) rfl
set_option maxRecDepth 20000 in
theorem k1217 : (Jvm.Cond.code ({ cls := "FaxRowsModel", name := "damaged", desc := "(I)Z" } : Jvm.MethodName) prog_10_method_34_code (2 : Nat) (Option.some Jvm.ClassFile.FieldType.boolean)) ∈ wT := wk (lwt_5 (List.mem_of_getElem? (i := 212) rfl)) rfl
set_option maxRecDepth 20000 in
theorem k1218 : (Jvm.Cond.methodLink "FaxRowsLaw" (68 : Nat) ({ cls := "FaxRowsModel", name := "changes", desc := "(II)I" } : Jvm.MethodName)) ∈ wT := wk (lwt_5 (List.mem_of_getElem? (i := 213) (by decide +kernel))) rfl
set_option maxRecDepth 20000 in
theorem k1219 : (Jvm.Cond.instanceMethod ({ cls := "FaxRowsModel", name := "changes", desc := "(II)I" } : Jvm.MethodName)) ∈ wT := wk (lwt_5 (List.mem_of_getElem? (i := 214) (by decide +kernel))) rfl
set_option maxRecDepth 20000 in
theorem k1220 : (Jvm.Cond.selects "FaxRowsModel" ({ cls := "FaxRowsModel", name := "changes", desc := "(II)I" } : Jvm.MethodName) ({ cls := "FaxRowsModel", name := "changes", desc := "(II)I" } : Jvm.MethodName)) ∈ wT := wk (lwt_5 (List.mem_of_getElem? (i := 215) (by decide +kernel))) rfl
set_option maxRecDepth 20000 in
theorem k1221 : (Jvm.Cond.code ({ cls := "FaxRowsModel", name := "changes", desc := "(II)I" } : Jvm.MethodName) prog_10_method_35_code (5 : Nat) (Option.some Jvm.ClassFile.FieldType.int)) ∈ wT := wk (lwt_5 (List.mem_of_getElem? (i := 216) rfl)) rfl
set_option maxRecDepth 20000 in
theorem k1222 : (Jvm.Cond.methodLink "FaxRowsLaw" (72 : Nat) ({ cls := "FaxRowsModel", name := "mode", desc := "(II)I" } : Jvm.MethodName)) ∈ wT := wk (lwt_5 (List.mem_of_getElem? (i := 217) (by decide +kernel))) rfl
set_option maxRecDepth 20000 in
theorem k1223 : (Jvm.Cond.instanceMethod ({ cls := "FaxRowsModel", name := "mode", desc := "(II)I" } : Jvm.MethodName)) ∈ wT := wk (lwt_5 (List.mem_of_getElem? (i := 218) (by decide +kernel))) rfl
set_option maxRecDepth 20000 in
theorem k1224 : (Jvm.Cond.selects "FaxRowsModel" ({ cls := "FaxRowsModel", name := "mode", desc := "(II)I" } : Jvm.MethodName) ({ cls := "FaxRowsModel", name := "mode", desc := "(II)I" } : Jvm.MethodName)) ∈ wT := wk (lwt_5 (List.mem_of_getElem? (i := 219) (by decide +kernel))) rfl
set_option maxRecDepth 20000 in
theorem k1225 : (Jvm.Cond.code ({ cls := "FaxRowsModel", name := "mode", desc := "(II)I" } : Jvm.MethodName) prog_10_method_36_code (3 : Nat) (Option.some Jvm.ClassFile.FieldType.int)) ∈ wT := wk (lwt_5 (List.mem_of_getElem? (i := 220) rfl)) rfl
set_option maxRecDepth 20000 in
theorem k1226 : (Jvm.Cond.methodLink "FaxRowsLaw" (76 : Nat) ({ cls := "FaxRowsModel", name := "fill", desc := "(I)Z" } : Jvm.MethodName)) ∈ wT := wk (lwt_5 (List.mem_of_getElem? (i := 221) (by decide +kernel))) rfl
set_option maxRecDepth 20000 in
theorem k1227 : (Jvm.Cond.instanceMethod ({ cls := "FaxRowsModel", name := "fill", desc := "(I)Z" } : Jvm.MethodName)) ∈ wT := wk (lwt_5 (List.mem_of_getElem? (i := 222) (by decide +kernel))) rfl
set_option maxRecDepth 20000 in
theorem k1228 : (Jvm.Cond.selects "FaxRowsModel" ({ cls := "FaxRowsModel", name := "fill", desc := "(I)Z" } : Jvm.MethodName) ({ cls := "FaxRowsModel", name := "fill", desc := "(I)Z" } : Jvm.MethodName)) ∈ wT := wk (lwt_5 (List.mem_of_getElem? (i := 223) (by decide +kernel))) rfl
set_option maxRecDepth 20000 in
theorem k1229 : (Jvm.Cond.code ({ cls := "FaxRowsModel", name := "fill", desc := "(I)Z" } : Jvm.MethodName) prog_10_method_37_code (2 : Nat) (Option.some Jvm.ClassFile.FieldType.boolean)) ∈ wT := wk (lwt_5 (List.mem_of_getElem? (i := 224) rfl)) rfl
set_option maxRecDepth 20000 in
theorem k1230 : (Jvm.Cond.methodLink "FaxRowsLaw" (80 : Nat) ({ cls := "FaxRowsModel", name := "repair", desc := "(I)Z" } : Jvm.MethodName)) ∈ wT := wk (lwt_5 (List.mem_of_getElem? (i := 225) (by decide +kernel))) rfl
set_option maxRecDepth 20000 in
theorem k1231 : (Jvm.Cond.instanceMethod ({ cls := "FaxRowsModel", name := "repair", desc := "(I)Z" } : Jvm.MethodName)) ∈ wT := wk (lwt_5 (List.mem_of_getElem? (i := 226) (by decide +kernel))) rfl
set_option maxRecDepth 20000 in
theorem k1232 : (Jvm.Cond.selects "FaxRowsModel" ({ cls := "FaxRowsModel", name := "repair", desc := "(I)Z" } : Jvm.MethodName) ({ cls := "FaxRowsModel", name := "repair", desc := "(I)Z" } : Jvm.MethodName)) ∈ wT := wk (lwt_5 (List.mem_of_getElem? (i := 227) (by decide +kernel))) rfl
set_option maxRecDepth 20000 in
theorem k1233 : (Jvm.Cond.code ({ cls := "FaxRowsModel", name := "repair", desc := "(I)Z" } : Jvm.MethodName) prog_10_method_38_code (2 : Nat) (Option.some Jvm.ClassFile.FieldType.boolean)) ∈ wT := wk (lwt_5 (List.mem_of_getElem? (i := 228) rfl)) rfl
set_option maxRecDepth 20000 in
theorem k1234 : (Jvm.Cond.methodLink "FaxRowsLaw" (85 : Nat) ({ cls := "FaxRowsModel", name := "order", desc := "(Z)I" } : Jvm.MethodName)) ∈ wT := wk (lwt_5 (List.mem_of_getElem? (i := 229) (by decide +kernel))) rfl
set_option maxRecDepth 20000 in
theorem k1235 : (Jvm.Cond.instanceMethod ({ cls := "FaxRowsModel", name := "order", desc := "(Z)I" } : Jvm.MethodName)) ∈ wT := wk (lwt_5 (List.mem_of_getElem? (i := 230) (by decide +kernel))) rfl
set_option maxRecDepth 20000 in
theorem k1236 : (Jvm.Cond.selects "FaxRowsModel" ({ cls := "FaxRowsModel", name := "order", desc := "(Z)I" } : Jvm.MethodName) ({ cls := "FaxRowsModel", name := "order", desc := "(Z)I" } : Jvm.MethodName)) ∈ wT := wk (lwt_5 (List.mem_of_getElem? (i := 231) (by decide +kernel))) rfl
set_option maxRecDepth 20000 in
theorem k1237 : (Jvm.Cond.code ({ cls := "FaxRowsModel", name := "order", desc := "(Z)I" } : Jvm.MethodName) prog_10_method_39_code (3 : Nat) (Option.some Jvm.ClassFile.FieldType.int)) ∈ wT := wk (lwt_5 (List.mem_of_getElem? (i := 232) rfl)) rfl
set_option maxRecDepth 20000 in
theorem k1238 : (Jvm.Cond.methodLink "FaxRowsLaw" (89 : Nat) ({ cls := "FaxRowsModel", name := "clear", desc := "()V" } : Jvm.MethodName)) ∈ wT := wk (lwt_5 (List.mem_of_getElem? (i := 233) (by decide +kernel))) rfl
set_option maxRecDepth 20000 in
theorem k1239 : (Jvm.Cond.instanceMethod ({ cls := "FaxRowsModel", name := "clear", desc := "()V" } : Jvm.MethodName)) ∈ wT := wk (lwt_5 (List.mem_of_getElem? (i := 234) (by decide +kernel))) rfl
set_option maxRecDepth 20000 in
theorem k1240 : (Jvm.Cond.selects "FaxRowsModel" ({ cls := "FaxRowsModel", name := "clear", desc := "()V" } : Jvm.MethodName) ({ cls := "FaxRowsModel", name := "clear", desc := "()V" } : Jvm.MethodName)) ∈ wT := wk (lwt_5 (List.mem_of_getElem? (i := 235) (by decide +kernel))) rfl
set_option maxRecDepth 20000 in
theorem k1241 : (Jvm.Cond.code ({ cls := "FaxRowsModel", name := "clear", desc := "()V" } : Jvm.MethodName) prog_10_method_40_code (2 : Nat) (Option.none : Option Jvm.ClassFile.FieldType)) ∈ wT := wk (lwt_5 (List.mem_of_getElem? (i := 236) rfl)) rfl
set_option maxRecDepth 20000 in
theorem k1242 : (Jvm.Cond.arrayClass Jvm.ClassFile.FieldType.long) ∈ wT := wk (lwt_5 (List.mem_of_getElem? (i := 237) (by decide +kernel))) rfl
theorem ykX0_init : yOk yX0_init 0 = true := by decide +kernel
theorem ykX0_setLowestFirst : yOk yX0_setLowestFirst 1 = true := by decide +kernel
theorem ykX0_removeAll : yOk yX0_removeAll 0 = true := by decide +kernel
theorem ykX0_count : yOk yX0_count 0 = true := by decide +kernel
theorem ykX0_byteCount : yOk yX0_byteCount 0 = true := by decide +kernel
theorem ykX0_byteOf : yOk yX0_byteOf 1 = true := by decide +kernel
theorem ykX0_addByte : yOk yX0_addByte 1 = true := by decide +kernel
theorem ykX0_addZeros : yOk yX0_addZeros 1 = true := by decide +kernel
theorem ykX0_addCode : yOk yX0_addCode 1 = true := by decide +kernel
theorem ykX0_fillLastByte : yOk yX0_fillLastByte 0 = true := by decide +kernel
theorem ykX0_beginReading : yOk yX0_beginReading 0 = true := by decide +kernel
theorem ykX0_left : yOk yX0_left 0 = true := by decide +kernel
theorem ykX0_isOne : yOk yX0_isOne 1 = true := by decide +kernel
theorem ykX0_skip : yOk yX0_skip 1 = true := by decide +kernel
theorem ykX0_isAtMark : yOk yX0_isAtMark 0 = true := by decide +kernel
theorem ykX0_skipToMark : yOk yX0_skipToMark 0 = true := by decide +kernel
theorem ykX0_zerosAhead : yOk yX0_zerosAhead 1 = true := by decide +kernel
theorem ykX0_makeRoomFor : yOk yX0_makeRoomFor 1 = true := by decide +kernel
theorem ykX1_init : yOk yX1_init 0 = true := by decide +kernel
theorem ykX1_addAll : yOk yX1_addAll 2 = true := by decide +kernel
theorem ykX1_add : yOk yX1_add 2 = true := by decide +kernel
theorem ykX1_nodeBelow : yOk yX1_nodeBelow 2 = true := by decide +kernel
theorem ykX1_branch : yOk yX1_branch 2 = true := by decide +kernel
theorem ykX1_setBranch : yOk yX1_setBranch 3 = true := by decide +kernel
theorem ykX1_read : yOk yX1_read 1 = true := by decide +kernel
theorem ykX2_init : yOk yX2_init 0 = true := by decide +kernel
theorem ykX2_removeAll : yOk yX2_removeAll 0 = true := by decide +kernel
theorem ykX2_count : yOk yX2_count 0 = true := by decide +kernel
theorem ykX2_has : yOk yX2_has 1 = true := by decide +kernel
theorem ykX2_length : yOk yX2_length 1 = true := by decide +kernel
theorem ykX2_item : yOk yX2_item 3 = true := by decide +kernel
theorem ykX2_append : yOk yX2_append 1 = true := by decide +kernel
theorem ykX2_last : yOk yX2_last 0 = true := by decide +kernel
theorem ykX2_dropLast : yOk yX2_dropLast 0 = true := by decide +kernel
theorem ykX2_close : yOk yX2_close 0 = true := by decide +kernel
theorem ykX2_emptyOpen : yOk yX2_emptyOpen 0 = true := by decide +kernel
theorem ykX2_appendAll : yOk yX2_appendAll 1 = true := by decide +kernel
theorem ykX3_init : yOk yX3_init 2 = true := by decide +kernel
theorem ykX3_begin : yOk yX3_begin 1 = true := by decide +kernel
theorem ykX3_forget : yOk yX3_forget 0 = true := by decide +kernel
theorem ykX3_hasRow : yOk yX3_hasRow 1 = true := by decide +kernel
theorem ykX3_isBlack : yOk yX3_isBlack 2 = true := by decide +kernel
theorem ykX3_wasDamaged : yOk yX3_wasDamaged 1 = true := by decide +kernel
theorem ykX3_changeOf : yOk yX3_changeOf 2 = true := by decide +kernel
theorem ykX3_modeOf : yOk yX3_modeOf 2 = true := by decide +kernel
theorem ykX3_readMarked : yOk yX3_readMarked 2 = true := by decide +kernel
theorem ykX3_readUnmarked : yOk yX3_readUnmarked 0 = true := by decide +kernel
theorem ykX3_closeRow : yOk yX3_closeRow 2 = true := by decide +kernel
theorem ykX3_readRuns : yOk yX3_readRuns 0 = true := by decide +kernel
theorem ykX3_readModes : yOk yX3_readModes 0 = true := by decide +kernel
theorem ykX3_turnBesideB1 : yOk yX3_turnBesideB1 1 = true := by decide +kernel
theorem ykX3_readHorizontal : yOk yX3_readHorizontal 0 = true := by decide +kernel
theorem ykX3_turnAt : yOk yX3_turnAt 1 = true := by decide +kernel
theorem ykX3_readRun : yOk yX3_readRun 1 = true := by decide +kernel
theorem ykX4_init : yOk yX4_init 1 = true := by decide +kernel
theorem ykX4_set : yOk yX4_set 2 = true := by decide +kernel
theorem ykX4_whiten : yOk yX4_whiten 0 = true := by decide +kernel
theorem ykX4_addChangesTo : yOk yX4_addChangesTo 1 = true := by decide +kernel
theorem ykX4_addPlaces : yOk yX4_addPlaces 3 = true := by decide +kernel
theorem ykX5_init : yOk yX5_init 2 = true := by decide +kernel
theorem ykX5_begin : yOk yX5_begin 1 = true := by decide +kernel
theorem ykX5_isWhole : yOk yX5_isWhole 0 = true := by decide +kernel
theorem ykX5_a0 : yOk yX5_a0 0 = true := by decide +kernel
theorem ykX5_isBlack : yOk yX5_isBlack 0 = true := by decide +kernel
theorem ykX5_runStart : yOk yX5_runStart 0 = true := by decide +kernel
theorem ykX5_b1 : yOk yX5_b1 0 = true := by decide +kernel
theorem ykX5_b2 : yOk yX5_b2 0 = true := by decide +kernel
theorem ykX5_moveTo : yOk yX5_moveTo 1 = true := by decide +kernel
theorem ykX5_turnAt : yOk yX5_turnAt 1 = true := by decide +kernel
theorem ykX5_numberOfB1 : yOk yX5_numberOfB1 0 = true := by decide +kernel
theorem ykX6_init : yOk yX6_init 3 = true := by decide +kernel
theorem ykX6_writeUnmarked : yOk yX6_writeUnmarked 0 = true := by decide +kernel
theorem ykX6_writeMarked : yOk yX6_writeMarked 2 = true := by decide +kernel
theorem ykX6_writeMark : yOk yX6_writeMark 2 = true := by decide +kernel
theorem ykX6_writeRuns : yOk yX6_writeRuns 1 = true := by decide +kernel
theorem ykX6_writeModes : yOk yX6_writeModes 1 = true := by decide +kernel
theorem ykX6_writeRun : yOk yX6_writeRun 2 = true := by decide +kernel
theorem ykX6_runCode : yOk yX6_runCode 2 = true := by decide +kernel
theorem ykX7_init : yOk yX7_init 2 = true := by decide +kernel
theorem ykX7_put : yOk yX7_put 2 = true := by decide +kernel
theorem ykX7_endRow : yOk yX7_endRow 0 = true := by decide +kernel
theorem ykX7_encode : yOk yX7_encode 0 = true := by decide +kernel
theorem ykX7_byteAt : yOk yX7_byteAt 1 = true := by decide +kernel
theorem ykX7_feed : yOk yX7_feed 1 = true := by decide +kernel
theorem ykX7_decode : yOk yX7_decode 0 = true := by decide +kernel
theorem ykX7_at : yOk yX7_at 2 = true := by decide +kernel
theorem ykX7_damaged : yOk yX7_damaged 1 = true := by decide +kernel
theorem ykX7_changes : yOk yX7_changes 2 = true := by decide +kernel
theorem ykX7_mode : yOk yX7_mode 2 = true := by decide +kernel
theorem ykX7_fill : yOk yX7_fill 1 = true := by decide +kernel
theorem ykX7_repair : yOk yX7_repair 1 = true := by decide +kernel
theorem ykX7_order : yOk yX7_order 1 = true := by decide +kernel
theorem ykX7_clear : yOk yX7_clear 0 = true := by decide +kernel
theorem ykX7_topBit : yOk yX7_topBit 1 = true := by decide +kernel
theorem ykX8_init : yOk yX8_init 2 = true := by decide +kernel
theorem ykX8_put : yOk yX8_put 2 = true := by decide +kernel
theorem ykX8_endRow : yOk yX8_endRow 0 = true := by decide +kernel
theorem ykX8_bit : yOk yX8_bit 1 = true := by decide +kernel
theorem ykX8_number : yOk yX8_number 2 = true := by decide +kernel
theorem ykX8_write : yOk yX8_write 1 = true := by decide +kernel
theorem ykX8_mark : yOk yX8_mark 0 = true := by decide +kernel
theorem ykX8_run : yOk yX8_run 2 = true := by decide +kernel
theorem ykX8_change : yOk yX8_change 3 = true := by decide +kernel
theorem ykX8_oneDimension : yOk yX8_oneDimension 1 = true := by decide +kernel
theorem ykX8_b1 : yOk yX8_b1 4 = true := by decide +kernel
theorem ykX8_b2 : yOk yX8_b2 3 = true := by decide +kernel
theorem ykX8_twoDimensions : yOk yX8_twoDimensions 2 = true := by decide +kernel
theorem ykX8_vertical : yOk yX8_vertical 1 = true := by decide +kernel
theorem ykX8_encode : yOk yX8_encode 0 = true := by decide +kernel
theorem ykX8_byteAt : yOk yX8_byteAt 1 = true := by decide +kernel
theorem ykX8_feed : yOk yX8_feed 1 = true := by decide +kernel
theorem ykX8_bitAt : yOk yX8_bitAt 1 = true := by decide +kernel
theorem ykX8_behindMark : yOk yX8_behindMark 1 = true := by decide +kernel
theorem ykX8_findMark : yOk yX8_findMark 1 = true := by decide +kernel
theorem ykX8_runCode : yOk yX8_runCode 1 = true := by decide +kernel
theorem ykX8_readRun : yOk yX8_readRun 2 = true := by decide +kernel
theorem ykX8_paint : yOk yX8_paint 4 = true := by decide +kernel
theorem ykX8_readOne : yOk yX8_readOne 1 = true := by decide +kernel
theorem ykX8_readMode : yOk yX8_readMode 0 = true := by decide +kernel
theorem ykX8_readTwo : yOk yX8_readTwo 3 = true := by decide +kernel
theorem ykX8_readRow : yOk yX8_readRow 2 = true := by decide +kernel
theorem ykX8_readMarked : yOk yX8_readMarked 0 = true := by decide +kernel
theorem ykX8_isEnd : yOk yX8_isEnd 0 = true := by decide +kernel
theorem ykX8_readUnmarked : yOk yX8_readUnmarked 0 = true := by decide +kernel
theorem ykX8_decode : yOk yX8_decode 0 = true := by decide +kernel
theorem ykX8_at : yOk yX8_at 2 = true := by decide +kernel
theorem ykX8_damaged : yOk yX8_damaged 1 = true := by decide +kernel
theorem ykX8_changes : yOk yX8_changes 2 = true := by decide +kernel
theorem ykX8_mode : yOk yX8_mode 2 = true := by decide +kernel
theorem ykX8_fill : yOk yX8_fill 1 = true := by decide +kernel
theorem ykX8_repair : yOk yX8_repair 1 = true := by decide +kernel
theorem ykX8_order : yOk yX8_order 1 = true := by decide +kernel
theorem ykX8_clear : yOk yX8_clear 0 = true := by decide +kernel
theorem ykJ7_rangeCheck_23922 : yOk yJ7_rangeCheck_23922 3 = true := by decide +kernel
theorem ykJ7_fill_53178 : yOk yJ7_fill_53178 2 = true := by decide +kernel
theorem ykJ7_fill_eb02e : yOk yJ7_fill_eb02e 4 = true := by decide +kernel
theorem ykJ7_copyOf_9075b : yOk yJ7_copyOf_9075b 2 = true := by decide +kernel
theorem ykJ7_copyOf_59c91 : yOk yJ7_copyOf_59c91 2 = true := by decide +kernel
theorem ykL_cell : yOk yL_cell 2 = true := by decide +kernel
theorem ykL_at : yOk yL_at 4 = true := by decide +kernel
