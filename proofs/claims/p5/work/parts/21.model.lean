/-! THE REFERENCE: its constructor -/
/-- what the tables of runs hold -/
def rR (f : Nat → Int32) : Prop := ∀ i, 0 ≤ (f i).toInt ∧ (f i).toInt ≤ 3000
theorem rR_0 : rR (fun _ => 0) := fun _ => (by decide : 0 ≤ (0 : Int32).toInt ∧ (0 : Int32).toInt ≤ 3000)
theorem rR_upd {f : Nat → Int32} (h : rR f) {k : Nat} {t : Int} (ht : 0 ≤ t ∧ t ≤ 3000) : rR (upd f k (iI t)) := by
  intro i
  by_cases hi : i = k
  · subst hi; rw [pk_us, iI_toInt (by omega)]; exact ht
  · rw [pk_un hi]; exact h i
theorem rR_updE {f f2 : Nat → Int32} {k : Nat} {t : Int} (e : upd f k (iI t) = f2) (h : rR f) (ht : 0 ≤ t ∧ t ≤ 3000) : rR f2 := e ▸ rR_upd h ht
def mW : List Int := [309, 71, 23, 24, 27, 28, 30, 31, 51, 52, 39, 40, 72, 67, 116, 117, 106, 107, 167, 140, 136, 151, 131, 132, 168, 171, 147, 164, 152, 258, 259, 282, 283, 274, 275, 276, 277, 278, 279, 296, 297, 298, 299, 300, 301, 260, 261, 266, 267, 338, 339, 340, 341, 292, 293, 344, 345, 346, 347, 330, 331, 306, 307, 308]
def mB : List Int := [1079, 10, 7, 6, 11, 19, 18, 35, 69, 68, 132, 133, 135, 260, 263, 536, 1047, 1048, 1032, 2151, 2152, 2156, 2103, 2088, 2071, 2072, 4298, 4299, 4300, 4301, 4200, 4201, 4202, 4203, 4306, 4307, 4308, 4309, 4310, 4311, 4204, 4205, 4314, 4315, 4180, 4181, 4182, 4183, 4196, 4197, 4178, 4179, 4132, 4151, 4152, 4135, 4136, 4184, 4185, 4139, 4140, 4186, 4198, 4199]
def mWM : List Int := [59, 50, 87, 183, 310, 311, 356, 357, 360, 359, 716, 717, 722, 723, 724, 725, 726, 727, 728, 729, 730, 731, 664, 665, 666, 88, 667]
def mBM : List Int := [1039, 4296, 4297, 4187, 4147, 4148, 4149, 8300, 8301, 8266, 8267, 8268, 8269, 8306, 8307, 8308, 8309, 8310, 8311, 8274, 8275, 8276, 8277, 8282, 8283, 8292, 8293]
def mBO : List Int := [2056, 2060, 2061, 4114, 4115, 4116, 4117, 4118, 4119, 4124, 4125, 4126, 4127]
/-- a row into which the first k numbers of a list have come -/
def lfT (l : List Int) (k : Nat) : Nat → Int32 := fun j => iI ((l.take k).getD j 0)
theorem lfT_step {l : List Int} {k : Nat} {v : Int} (h : l[k]? = some v) : upd (lfT l k) k (iI v) = lfT l (k + 1) := by
  obtain ⟨hk, hv⟩ := List.getElem?_eq_some_iff.mp h
  funext j
  unfold upd lfT
  by_cases hj : j = k
  · subst hj
    simp [List.getD, hk, hv, List.getElem?_take]
  · simp only [hj, if_false, List.getD, List.getElem?_take]
    congr 2
    by_cases h1 : j < k
    · rw [if_pos h1, if_pos (by omega)]
    · rw [if_neg h1, if_neg (by omega)]
theorem lfT_first {l : List Int} {v : Int} (h : l[0]? = some v) : upd (fun _ => 0) 0 (iI v) = lfT l 1 := by
  have e : (fun _ => 0) = lfT l 0 := by
    funext j
    simp [lfT]
    rfl
  rw [e]
  exact lfT_step h
theorem lfT_all {l : List Int} {k : Nat} (h : l.length ≤ k) (j : Nat) : lfT l k j = iI (l.getD j 0) := by
  unfold lfT
  rw [List.take_of_length_le h]
theorem tab_bnd {l : List Int} {b : Int} (hb : 0 < b) (h : l.all (fun x => decide (0 ≤ x ∧ x < b)) = true) (j : Nat) : 0 ≤ l.getD j 0 ∧ l.getD j 0 < b := by
  by_cases hj : j < l.length
  · have h1 := List.all_eq_true.mp h (l[j]) (List.getElem_mem hj)
    simp only [List.getD, List.getElem?_eq_getElem hj, Option.getD_some]
    exact of_decide_eq_true h1
  · simp only [List.getD, List.getElem?_eq_none (Nat.le_of_not_lt hj), Option.getD_none]
    omega
theorem mW_b (j : Nat) : 0 ≤ mW.getD j 0 ∧ mW.getD j 0 < 16384 := tab_bnd (by decide) (by decide +kernel) j
theorem mB_b (j : Nat) : 0 ≤ mB.getD j 0 ∧ mB.getD j 0 < 16384 := tab_bnd (by decide) (by decide +kernel) j
theorem mWM_b (j : Nat) : 0 ≤ mWM.getD j 0 ∧ mWM.getD j 0 < 16384 := tab_bnd (by decide) (by decide +kernel) j
theorem mBM_b (j : Nat) : 0 ≤ mBM.getD j 0 ∧ mBM.getD j 0 < 16384 := tab_bnd (by decide) (by decide +kernel) j
theorem mBO_b (j : Nat) : 0 ≤ mBO.getD j 0 ∧ mBO.getD j 0 < 16384 := tab_bnd (by decide) (by decide +kernel) j
theorem dX8_init_0 : decode cX8_init 0 = .ok (.aload_n 0, 1) := by decide +kernel
theorem dX8_init_1 : decode cX8_init 1 = .ok (.invokespecial 1, 3) := by decide +kernel
theorem dX8_init_4 : decode cX8_init 4 = .ok (.aload_n 0, 1) := by decide +kernel
theorem dX8_init_5 : decode cX8_init 5 = .ok (.bipush 64, 2) := by decide +kernel
theorem dX8_init_7 : decode cX8_init 7 = .ok (.newarray .int, 2) := by decide +kernel
theorem dX8_init_9 : decode cX8_init 9 = .ok (.dup, 1) := by decide +kernel
theorem dX8_init_10 : decode cX8_init 10 = .ok (.iconst 0, 1) := by decide +kernel
theorem dX8_init_11 : decode cX8_init 11 = .ok (.sipush 309, 3) := by decide +kernel
theorem dX8_init_14 : decode cX8_init 14 = .ok (.iastore, 1) := by decide +kernel
theorem dX8_init_15 : decode cX8_init 15 = .ok (.dup, 1) := by decide +kernel
theorem dX8_init_16 : decode cX8_init 16 = .ok (.iconst 1, 1) := by decide +kernel
theorem dX8_init_17 : decode cX8_init 17 = .ok (.bipush 71, 2) := by decide +kernel
theorem dX8_init_19 : decode cX8_init 19 = .ok (.iastore, 1) := by decide +kernel
theorem dX8_init_20 : decode cX8_init 20 = .ok (.dup, 1) := by decide +kernel
theorem dX8_init_21 : decode cX8_init 21 = .ok (.iconst 2, 1) := by decide +kernel
theorem dX8_init_22 : decode cX8_init 22 = .ok (.bipush 23, 2) := by decide +kernel
theorem dX8_init_24 : decode cX8_init 24 = .ok (.iastore, 1) := by decide +kernel
theorem dX8_init_25 : decode cX8_init 25 = .ok (.dup, 1) := by decide +kernel
theorem dX8_init_26 : decode cX8_init 26 = .ok (.iconst 3, 1) := by decide +kernel
theorem dX8_init_27 : decode cX8_init 27 = .ok (.bipush 24, 2) := by decide +kernel
theorem dX8_init_29 : decode cX8_init 29 = .ok (.iastore, 1) := by decide +kernel
theorem dX8_init_30 : decode cX8_init 30 = .ok (.dup, 1) := by decide +kernel
theorem dX8_init_31 : decode cX8_init 31 = .ok (.iconst 4, 1) := by decide +kernel
theorem dX8_init_32 : decode cX8_init 32 = .ok (.bipush 27, 2) := by decide +kernel
theorem dX8_init_34 : decode cX8_init 34 = .ok (.iastore, 1) := by decide +kernel
theorem dX8_init_35 : decode cX8_init 35 = .ok (.dup, 1) := by decide +kernel
theorem dX8_init_36 : decode cX8_init 36 = .ok (.iconst 5, 1) := by decide +kernel
theorem dX8_init_37 : decode cX8_init 37 = .ok (.bipush 28, 2) := by decide +kernel
theorem dX8_init_39 : decode cX8_init 39 = .ok (.iastore, 1) := by decide +kernel
theorem dX8_init_40 : decode cX8_init 40 = .ok (.dup, 1) := by decide +kernel
theorem dX8_init_41 : decode cX8_init 41 = .ok (.bipush 6, 2) := by decide +kernel
theorem dX8_init_43 : decode cX8_init 43 = .ok (.bipush 30, 2) := by decide +kernel
theorem dX8_init_45 : decode cX8_init 45 = .ok (.iastore, 1) := by decide +kernel
theorem dX8_init_46 : decode cX8_init 46 = .ok (.dup, 1) := by decide +kernel
theorem dX8_init_47 : decode cX8_init 47 = .ok (.bipush 7, 2) := by decide +kernel
theorem dX8_init_49 : decode cX8_init 49 = .ok (.bipush 31, 2) := by decide +kernel
theorem dX8_init_51 : decode cX8_init 51 = .ok (.iastore, 1) := by decide +kernel
theorem dX8_init_52 : decode cX8_init 52 = .ok (.dup, 1) := by decide +kernel
theorem dX8_init_53 : decode cX8_init 53 = .ok (.bipush 8, 2) := by decide +kernel
theorem dX8_init_55 : decode cX8_init 55 = .ok (.bipush 51, 2) := by decide +kernel
theorem dX8_init_57 : decode cX8_init 57 = .ok (.iastore, 1) := by decide +kernel
theorem dX8_init_58 : decode cX8_init 58 = .ok (.dup, 1) := by decide +kernel
theorem dX8_init_59 : decode cX8_init 59 = .ok (.bipush 9, 2) := by decide +kernel
theorem dX8_init_61 : decode cX8_init 61 = .ok (.bipush 52, 2) := by decide +kernel
theorem dX8_init_63 : decode cX8_init 63 = .ok (.iastore, 1) := by decide +kernel
theorem dX8_init_64 : decode cX8_init 64 = .ok (.dup, 1) := by decide +kernel
theorem dX8_init_65 : decode cX8_init 65 = .ok (.bipush 10, 2) := by decide +kernel
theorem dX8_init_67 : decode cX8_init 67 = .ok (.bipush 39, 2) := by decide +kernel
theorem dX8_init_69 : decode cX8_init 69 = .ok (.iastore, 1) := by decide +kernel
theorem dX8_init_70 : decode cX8_init 70 = .ok (.dup, 1) := by decide +kernel
theorem dX8_init_71 : decode cX8_init 71 = .ok (.bipush 11, 2) := by decide +kernel
theorem dX8_init_73 : decode cX8_init 73 = .ok (.bipush 40, 2) := by decide +kernel
theorem dX8_init_75 : decode cX8_init 75 = .ok (.iastore, 1) := by decide +kernel
theorem dX8_init_76 : decode cX8_init 76 = .ok (.dup, 1) := by decide +kernel
theorem dX8_init_77 : decode cX8_init 77 = .ok (.bipush 12, 2) := by decide +kernel
theorem dX8_init_79 : decode cX8_init 79 = .ok (.bipush 72, 2) := by decide +kernel
theorem dX8_init_81 : decode cX8_init 81 = .ok (.iastore, 1) := by decide +kernel
theorem dX8_init_82 : decode cX8_init 82 = .ok (.dup, 1) := by decide +kernel
theorem dX8_init_83 : decode cX8_init 83 = .ok (.bipush 13, 2) := by decide +kernel
theorem dX8_init_85 : decode cX8_init 85 = .ok (.bipush 67, 2) := by decide +kernel
theorem dX8_init_87 : decode cX8_init 87 = .ok (.iastore, 1) := by decide +kernel
theorem dX8_init_88 : decode cX8_init 88 = .ok (.dup, 1) := by decide +kernel
theorem dX8_init_89 : decode cX8_init 89 = .ok (.bipush 14, 2) := by decide +kernel
theorem dX8_init_91 : decode cX8_init 91 = .ok (.bipush 116, 2) := by decide +kernel
theorem dX8_init_93 : decode cX8_init 93 = .ok (.iastore, 1) := by decide +kernel
theorem dX8_init_94 : decode cX8_init 94 = .ok (.dup, 1) := by decide +kernel
theorem dX8_init_95 : decode cX8_init 95 = .ok (.bipush 15, 2) := by decide +kernel
theorem dX8_init_97 : decode cX8_init 97 = .ok (.bipush 117, 2) := by decide +kernel
theorem dX8_init_99 : decode cX8_init 99 = .ok (.iastore, 1) := by decide +kernel
theorem dX8_init_100 : decode cX8_init 100 = .ok (.dup, 1) := by decide +kernel
theorem dX8_init_101 : decode cX8_init 101 = .ok (.bipush 16, 2) := by decide +kernel
theorem dX8_init_103 : decode cX8_init 103 = .ok (.bipush 106, 2) := by decide +kernel
theorem dX8_init_105 : decode cX8_init 105 = .ok (.iastore, 1) := by decide +kernel
theorem dX8_init_106 : decode cX8_init 106 = .ok (.dup, 1) := by decide +kernel
theorem dX8_init_107 : decode cX8_init 107 = .ok (.bipush 17, 2) := by decide +kernel
theorem dX8_init_109 : decode cX8_init 109 = .ok (.bipush 107, 2) := by decide +kernel
theorem dX8_init_111 : decode cX8_init 111 = .ok (.iastore, 1) := by decide +kernel
theorem dX8_init_112 : decode cX8_init 112 = .ok (.dup, 1) := by decide +kernel
theorem dX8_init_113 : decode cX8_init 113 = .ok (.bipush 18, 2) := by decide +kernel
theorem dX8_init_115 : decode cX8_init 115 = .ok (.sipush 167, 3) := by decide +kernel
theorem dX8_init_118 : decode cX8_init 118 = .ok (.iastore, 1) := by decide +kernel
theorem dX8_init_119 : decode cX8_init 119 = .ok (.dup, 1) := by decide +kernel
theorem dX8_init_120 : decode cX8_init 120 = .ok (.bipush 19, 2) := by decide +kernel
theorem dX8_init_122 : decode cX8_init 122 = .ok (.sipush 140, 3) := by decide +kernel
theorem dX8_init_125 : decode cX8_init 125 = .ok (.iastore, 1) := by decide +kernel
theorem dX8_init_126 : decode cX8_init 126 = .ok (.dup, 1) := by decide +kernel
theorem dX8_init_127 : decode cX8_init 127 = .ok (.bipush 20, 2) := by decide +kernel
theorem dX8_init_129 : decode cX8_init 129 = .ok (.sipush 136, 3) := by decide +kernel
theorem dX8_init_132 : decode cX8_init 132 = .ok (.iastore, 1) := by decide +kernel
theorem dX8_init_133 : decode cX8_init 133 = .ok (.dup, 1) := by decide +kernel
theorem dX8_init_134 : decode cX8_init 134 = .ok (.bipush 21, 2) := by decide +kernel
theorem dX8_init_136 : decode cX8_init 136 = .ok (.sipush 151, 3) := by decide +kernel
theorem dX8_init_139 : decode cX8_init 139 = .ok (.iastore, 1) := by decide +kernel
theorem dX8_init_140 : decode cX8_init 140 = .ok (.dup, 1) := by decide +kernel
theorem dX8_init_141 : decode cX8_init 141 = .ok (.bipush 22, 2) := by decide +kernel
theorem dX8_init_143 : decode cX8_init 143 = .ok (.sipush 131, 3) := by decide +kernel
theorem dX8_init_146 : decode cX8_init 146 = .ok (.iastore, 1) := by decide +kernel
theorem dX8_init_147 : decode cX8_init 147 = .ok (.dup, 1) := by decide +kernel
theorem dX8_init_148 : decode cX8_init 148 = .ok (.bipush 23, 2) := by decide +kernel
theorem dX8_init_150 : decode cX8_init 150 = .ok (.sipush 132, 3) := by decide +kernel
theorem dX8_init_153 : decode cX8_init 153 = .ok (.iastore, 1) := by decide +kernel
theorem dX8_init_154 : decode cX8_init 154 = .ok (.dup, 1) := by decide +kernel
theorem dX8_init_155 : decode cX8_init 155 = .ok (.bipush 24, 2) := by decide +kernel
theorem dX8_init_157 : decode cX8_init 157 = .ok (.sipush 168, 3) := by decide +kernel
theorem dX8_init_160 : decode cX8_init 160 = .ok (.iastore, 1) := by decide +kernel
theorem dX8_init_161 : decode cX8_init 161 = .ok (.dup, 1) := by decide +kernel
theorem dX8_init_162 : decode cX8_init 162 = .ok (.bipush 25, 2) := by decide +kernel
theorem dX8_init_164 : decode cX8_init 164 = .ok (.sipush 171, 3) := by decide +kernel
theorem dX8_init_167 : decode cX8_init 167 = .ok (.iastore, 1) := by decide +kernel
theorem dX8_init_168 : decode cX8_init 168 = .ok (.dup, 1) := by decide +kernel
theorem dX8_init_169 : decode cX8_init 169 = .ok (.bipush 26, 2) := by decide +kernel
theorem dX8_init_171 : decode cX8_init 171 = .ok (.sipush 147, 3) := by decide +kernel
theorem dX8_init_174 : decode cX8_init 174 = .ok (.iastore, 1) := by decide +kernel
theorem dX8_init_175 : decode cX8_init 175 = .ok (.dup, 1) := by decide +kernel
theorem dX8_init_176 : decode cX8_init 176 = .ok (.bipush 27, 2) := by decide +kernel
theorem dX8_init_178 : decode cX8_init 178 = .ok (.sipush 164, 3) := by decide +kernel
theorem dX8_init_181 : decode cX8_init 181 = .ok (.iastore, 1) := by decide +kernel
theorem dX8_init_182 : decode cX8_init 182 = .ok (.dup, 1) := by decide +kernel
theorem dX8_init_183 : decode cX8_init 183 = .ok (.bipush 28, 2) := by decide +kernel
theorem dX8_init_185 : decode cX8_init 185 = .ok (.sipush 152, 3) := by decide +kernel
theorem dX8_init_188 : decode cX8_init 188 = .ok (.iastore, 1) := by decide +kernel
theorem dX8_init_189 : decode cX8_init 189 = .ok (.dup, 1) := by decide +kernel
theorem dX8_init_190 : decode cX8_init 190 = .ok (.bipush 29, 2) := by decide +kernel
theorem dX8_init_192 : decode cX8_init 192 = .ok (.sipush 258, 3) := by decide +kernel
theorem dX8_init_195 : decode cX8_init 195 = .ok (.iastore, 1) := by decide +kernel
theorem dX8_init_196 : decode cX8_init 196 = .ok (.dup, 1) := by decide +kernel
theorem dX8_init_197 : decode cX8_init 197 = .ok (.bipush 30, 2) := by decide +kernel
theorem dX8_init_199 : decode cX8_init 199 = .ok (.sipush 259, 3) := by decide +kernel
theorem dX8_init_202 : decode cX8_init 202 = .ok (.iastore, 1) := by decide +kernel
theorem dX8_init_203 : decode cX8_init 203 = .ok (.dup, 1) := by decide +kernel
theorem dX8_init_204 : decode cX8_init 204 = .ok (.bipush 31, 2) := by decide +kernel
theorem dX8_init_206 : decode cX8_init 206 = .ok (.sipush 282, 3) := by decide +kernel
theorem dX8_init_209 : decode cX8_init 209 = .ok (.iastore, 1) := by decide +kernel
theorem dX8_init_210 : decode cX8_init 210 = .ok (.dup, 1) := by decide +kernel
theorem dX8_init_211 : decode cX8_init 211 = .ok (.bipush 32, 2) := by decide +kernel
theorem dX8_init_213 : decode cX8_init 213 = .ok (.sipush 283, 3) := by decide +kernel
theorem dX8_init_216 : decode cX8_init 216 = .ok (.iastore, 1) := by decide +kernel
theorem dX8_init_217 : decode cX8_init 217 = .ok (.dup, 1) := by decide +kernel
theorem dX8_init_218 : decode cX8_init 218 = .ok (.bipush 33, 2) := by decide +kernel
theorem dX8_init_220 : decode cX8_init 220 = .ok (.sipush 274, 3) := by decide +kernel
theorem dX8_init_223 : decode cX8_init 223 = .ok (.iastore, 1) := by decide +kernel
theorem dX8_init_224 : decode cX8_init 224 = .ok (.dup, 1) := by decide +kernel
theorem dX8_init_225 : decode cX8_init 225 = .ok (.bipush 34, 2) := by decide +kernel
theorem dX8_init_227 : decode cX8_init 227 = .ok (.sipush 275, 3) := by decide +kernel
theorem dX8_init_230 : decode cX8_init 230 = .ok (.iastore, 1) := by decide +kernel
theorem dX8_init_231 : decode cX8_init 231 = .ok (.dup, 1) := by decide +kernel
theorem dX8_init_232 : decode cX8_init 232 = .ok (.bipush 35, 2) := by decide +kernel
theorem dX8_init_234 : decode cX8_init 234 = .ok (.sipush 276, 3) := by decide +kernel
theorem dX8_init_237 : decode cX8_init 237 = .ok (.iastore, 1) := by decide +kernel
theorem dX8_init_238 : decode cX8_init 238 = .ok (.dup, 1) := by decide +kernel
theorem dX8_init_239 : decode cX8_init 239 = .ok (.bipush 36, 2) := by decide +kernel
theorem dX8_init_241 : decode cX8_init 241 = .ok (.sipush 277, 3) := by decide +kernel
theorem dX8_init_244 : decode cX8_init 244 = .ok (.iastore, 1) := by decide +kernel
theorem dX8_init_245 : decode cX8_init 245 = .ok (.dup, 1) := by decide +kernel
theorem dX8_init_246 : decode cX8_init 246 = .ok (.bipush 37, 2) := by decide +kernel
theorem dX8_init_248 : decode cX8_init 248 = .ok (.sipush 278, 3) := by decide +kernel
theorem dX8_init_251 : decode cX8_init 251 = .ok (.iastore, 1) := by decide +kernel
theorem dX8_init_252 : decode cX8_init 252 = .ok (.dup, 1) := by decide +kernel
theorem dX8_init_253 : decode cX8_init 253 = .ok (.bipush 38, 2) := by decide +kernel
theorem dX8_init_255 : decode cX8_init 255 = .ok (.sipush 279, 3) := by decide +kernel
theorem dX8_init_258 : decode cX8_init 258 = .ok (.iastore, 1) := by decide +kernel
theorem dX8_init_259 : decode cX8_init 259 = .ok (.dup, 1) := by decide +kernel
theorem dX8_init_260 : decode cX8_init 260 = .ok (.bipush 39, 2) := by decide +kernel
theorem dX8_init_262 : decode cX8_init 262 = .ok (.sipush 296, 3) := by decide +kernel
theorem dX8_init_265 : decode cX8_init 265 = .ok (.iastore, 1) := by decide +kernel
theorem dX8_init_266 : decode cX8_init 266 = .ok (.dup, 1) := by decide +kernel
theorem dX8_init_267 : decode cX8_init 267 = .ok (.bipush 40, 2) := by decide +kernel
theorem dX8_init_269 : decode cX8_init 269 = .ok (.sipush 297, 3) := by decide +kernel
theorem dX8_init_272 : decode cX8_init 272 = .ok (.iastore, 1) := by decide +kernel
theorem dX8_init_273 : decode cX8_init 273 = .ok (.dup, 1) := by decide +kernel
theorem dX8_init_274 : decode cX8_init 274 = .ok (.bipush 41, 2) := by decide +kernel
theorem dX8_init_276 : decode cX8_init 276 = .ok (.sipush 298, 3) := by decide +kernel
theorem dX8_init_279 : decode cX8_init 279 = .ok (.iastore, 1) := by decide +kernel
theorem dX8_init_280 : decode cX8_init 280 = .ok (.dup, 1) := by decide +kernel
theorem dX8_init_281 : decode cX8_init 281 = .ok (.bipush 42, 2) := by decide +kernel
theorem dX8_init_283 : decode cX8_init 283 = .ok (.sipush 299, 3) := by decide +kernel
theorem dX8_init_286 : decode cX8_init 286 = .ok (.iastore, 1) := by decide +kernel
theorem dX8_init_287 : decode cX8_init 287 = .ok (.dup, 1) := by decide +kernel
theorem dX8_init_288 : decode cX8_init 288 = .ok (.bipush 43, 2) := by decide +kernel
theorem dX8_init_290 : decode cX8_init 290 = .ok (.sipush 300, 3) := by decide +kernel
theorem dX8_init_293 : decode cX8_init 293 = .ok (.iastore, 1) := by decide +kernel
theorem dX8_init_294 : decode cX8_init 294 = .ok (.dup, 1) := by decide +kernel
theorem dX8_init_295 : decode cX8_init 295 = .ok (.bipush 44, 2) := by decide +kernel
theorem dX8_init_297 : decode cX8_init 297 = .ok (.sipush 301, 3) := by decide +kernel
theorem dX8_init_300 : decode cX8_init 300 = .ok (.iastore, 1) := by decide +kernel
theorem dX8_init_301 : decode cX8_init 301 = .ok (.dup, 1) := by decide +kernel
theorem dX8_init_302 : decode cX8_init 302 = .ok (.bipush 45, 2) := by decide +kernel
theorem dX8_init_304 : decode cX8_init 304 = .ok (.sipush 260, 3) := by decide +kernel
theorem dX8_init_307 : decode cX8_init 307 = .ok (.iastore, 1) := by decide +kernel
theorem dX8_init_308 : decode cX8_init 308 = .ok (.dup, 1) := by decide +kernel
theorem dX8_init_309 : decode cX8_init 309 = .ok (.bipush 46, 2) := by decide +kernel
theorem dX8_init_311 : decode cX8_init 311 = .ok (.sipush 261, 3) := by decide +kernel
theorem dX8_init_314 : decode cX8_init 314 = .ok (.iastore, 1) := by decide +kernel
theorem dX8_init_315 : decode cX8_init 315 = .ok (.dup, 1) := by decide +kernel
theorem dX8_init_316 : decode cX8_init 316 = .ok (.bipush 47, 2) := by decide +kernel
theorem dX8_init_318 : decode cX8_init 318 = .ok (.sipush 266, 3) := by decide +kernel
theorem dX8_init_321 : decode cX8_init 321 = .ok (.iastore, 1) := by decide +kernel
theorem dX8_init_322 : decode cX8_init 322 = .ok (.dup, 1) := by decide +kernel
theorem dX8_init_323 : decode cX8_init 323 = .ok (.bipush 48, 2) := by decide +kernel
theorem dX8_init_325 : decode cX8_init 325 = .ok (.sipush 267, 3) := by decide +kernel
theorem dX8_init_328 : decode cX8_init 328 = .ok (.iastore, 1) := by decide +kernel
theorem dX8_init_329 : decode cX8_init 329 = .ok (.dup, 1) := by decide +kernel
theorem dX8_init_330 : decode cX8_init 330 = .ok (.bipush 49, 2) := by decide +kernel
theorem dX8_init_332 : decode cX8_init 332 = .ok (.sipush 338, 3) := by decide +kernel
theorem dX8_init_335 : decode cX8_init 335 = .ok (.iastore, 1) := by decide +kernel
theorem dX8_init_336 : decode cX8_init 336 = .ok (.dup, 1) := by decide +kernel
theorem dX8_init_337 : decode cX8_init 337 = .ok (.bipush 50, 2) := by decide +kernel
theorem dX8_init_339 : decode cX8_init 339 = .ok (.sipush 339, 3) := by decide +kernel
theorem dX8_init_342 : decode cX8_init 342 = .ok (.iastore, 1) := by decide +kernel
theorem dX8_init_343 : decode cX8_init 343 = .ok (.dup, 1) := by decide +kernel
theorem dX8_init_344 : decode cX8_init 344 = .ok (.bipush 51, 2) := by decide +kernel
theorem dX8_init_346 : decode cX8_init 346 = .ok (.sipush 340, 3) := by decide +kernel
theorem dX8_init_349 : decode cX8_init 349 = .ok (.iastore, 1) := by decide +kernel
theorem dX8_init_350 : decode cX8_init 350 = .ok (.dup, 1) := by decide +kernel
theorem dX8_init_351 : decode cX8_init 351 = .ok (.bipush 52, 2) := by decide +kernel
theorem dX8_init_353 : decode cX8_init 353 = .ok (.sipush 341, 3) := by decide +kernel
theorem dX8_init_356 : decode cX8_init 356 = .ok (.iastore, 1) := by decide +kernel
theorem dX8_init_357 : decode cX8_init 357 = .ok (.dup, 1) := by decide +kernel
theorem dX8_init_358 : decode cX8_init 358 = .ok (.bipush 53, 2) := by decide +kernel
theorem dX8_init_360 : decode cX8_init 360 = .ok (.sipush 292, 3) := by decide +kernel
theorem dX8_init_363 : decode cX8_init 363 = .ok (.iastore, 1) := by decide +kernel
theorem dX8_init_364 : decode cX8_init 364 = .ok (.dup, 1) := by decide +kernel
theorem dX8_init_365 : decode cX8_init 365 = .ok (.bipush 54, 2) := by decide +kernel
theorem dX8_init_367 : decode cX8_init 367 = .ok (.sipush 293, 3) := by decide +kernel
theorem dX8_init_370 : decode cX8_init 370 = .ok (.iastore, 1) := by decide +kernel
theorem dX8_init_371 : decode cX8_init 371 = .ok (.dup, 1) := by decide +kernel
theorem dX8_init_372 : decode cX8_init 372 = .ok (.bipush 55, 2) := by decide +kernel
theorem dX8_init_374 : decode cX8_init 374 = .ok (.sipush 344, 3) := by decide +kernel
theorem dX8_init_377 : decode cX8_init 377 = .ok (.iastore, 1) := by decide +kernel
theorem dX8_init_378 : decode cX8_init 378 = .ok (.dup, 1) := by decide +kernel
theorem dX8_init_379 : decode cX8_init 379 = .ok (.bipush 56, 2) := by decide +kernel
theorem dX8_init_381 : decode cX8_init 381 = .ok (.sipush 345, 3) := by decide +kernel
theorem dX8_init_384 : decode cX8_init 384 = .ok (.iastore, 1) := by decide +kernel
theorem dX8_init_385 : decode cX8_init 385 = .ok (.dup, 1) := by decide +kernel
theorem dX8_init_386 : decode cX8_init 386 = .ok (.bipush 57, 2) := by decide +kernel
theorem dX8_init_388 : decode cX8_init 388 = .ok (.sipush 346, 3) := by decide +kernel
theorem dX8_init_391 : decode cX8_init 391 = .ok (.iastore, 1) := by decide +kernel
theorem dX8_init_392 : decode cX8_init 392 = .ok (.dup, 1) := by decide +kernel
theorem dX8_init_393 : decode cX8_init 393 = .ok (.bipush 58, 2) := by decide +kernel
theorem dX8_init_395 : decode cX8_init 395 = .ok (.sipush 347, 3) := by decide +kernel
theorem dX8_init_398 : decode cX8_init 398 = .ok (.iastore, 1) := by decide +kernel
theorem dX8_init_399 : decode cX8_init 399 = .ok (.dup, 1) := by decide +kernel
theorem dX8_init_400 : decode cX8_init 400 = .ok (.bipush 59, 2) := by decide +kernel
theorem dX8_init_402 : decode cX8_init 402 = .ok (.sipush 330, 3) := by decide +kernel
theorem dX8_init_405 : decode cX8_init 405 = .ok (.iastore, 1) := by decide +kernel
theorem dX8_init_406 : decode cX8_init 406 = .ok (.dup, 1) := by decide +kernel
theorem dX8_init_407 : decode cX8_init 407 = .ok (.bipush 60, 2) := by decide +kernel
theorem dX8_init_409 : decode cX8_init 409 = .ok (.sipush 331, 3) := by decide +kernel
theorem dX8_init_412 : decode cX8_init 412 = .ok (.iastore, 1) := by decide +kernel
theorem dX8_init_413 : decode cX8_init 413 = .ok (.dup, 1) := by decide +kernel
theorem dX8_init_414 : decode cX8_init 414 = .ok (.bipush 61, 2) := by decide +kernel
theorem dX8_init_416 : decode cX8_init 416 = .ok (.sipush 306, 3) := by decide +kernel
theorem dX8_init_419 : decode cX8_init 419 = .ok (.iastore, 1) := by decide +kernel
theorem dX8_init_420 : decode cX8_init 420 = .ok (.dup, 1) := by decide +kernel
theorem dX8_init_421 : decode cX8_init 421 = .ok (.bipush 62, 2) := by decide +kernel
theorem dX8_init_423 : decode cX8_init 423 = .ok (.sipush 307, 3) := by decide +kernel
theorem dX8_init_426 : decode cX8_init 426 = .ok (.iastore, 1) := by decide +kernel
theorem dX8_init_427 : decode cX8_init 427 = .ok (.dup, 1) := by decide +kernel
theorem dX8_init_428 : decode cX8_init 428 = .ok (.bipush 63, 2) := by decide +kernel
theorem dX8_init_430 : decode cX8_init 430 = .ok (.sipush 308, 3) := by decide +kernel
theorem dX8_init_433 : decode cX8_init 433 = .ok (.iastore, 1) := by decide +kernel
theorem dX8_init_434 : decode cX8_init 434 = .ok (.putfield 7, 3) := by decide +kernel
theorem dX8_init_437 : decode cX8_init 437 = .ok (.aload_n 0, 1) := by decide +kernel
theorem dX8_init_438 : decode cX8_init 438 = .ok (.bipush 64, 2) := by decide +kernel
theorem dX8_init_440 : decode cX8_init 440 = .ok (.newarray .int, 2) := by decide +kernel
theorem dX8_init_442 : decode cX8_init 442 = .ok (.dup, 1) := by decide +kernel
theorem dX8_init_443 : decode cX8_init 443 = .ok (.iconst 0, 1) := by decide +kernel
theorem dX8_init_444 : decode cX8_init 444 = .ok (.sipush 1079, 3) := by decide +kernel
theorem dX8_init_447 : decode cX8_init 447 = .ok (.iastore, 1) := by decide +kernel
theorem dX8_init_448 : decode cX8_init 448 = .ok (.dup, 1) := by decide +kernel
theorem dX8_init_449 : decode cX8_init 449 = .ok (.iconst 1, 1) := by decide +kernel
theorem dX8_init_450 : decode cX8_init 450 = .ok (.bipush 10, 2) := by decide +kernel
theorem dX8_init_452 : decode cX8_init 452 = .ok (.iastore, 1) := by decide +kernel
theorem dX8_init_453 : decode cX8_init 453 = .ok (.dup, 1) := by decide +kernel
theorem dX8_init_454 : decode cX8_init 454 = .ok (.iconst 2, 1) := by decide +kernel
theorem dX8_init_455 : decode cX8_init 455 = .ok (.bipush 7, 2) := by decide +kernel
theorem dX8_init_457 : decode cX8_init 457 = .ok (.iastore, 1) := by decide +kernel
theorem dX8_init_458 : decode cX8_init 458 = .ok (.dup, 1) := by decide +kernel
theorem dX8_init_459 : decode cX8_init 459 = .ok (.iconst 3, 1) := by decide +kernel
theorem dX8_init_460 : decode cX8_init 460 = .ok (.bipush 6, 2) := by decide +kernel
theorem dX8_init_462 : decode cX8_init 462 = .ok (.iastore, 1) := by decide +kernel
theorem dX8_init_463 : decode cX8_init 463 = .ok (.dup, 1) := by decide +kernel
theorem dX8_init_464 : decode cX8_init 464 = .ok (.iconst 4, 1) := by decide +kernel
theorem dX8_init_465 : decode cX8_init 465 = .ok (.bipush 11, 2) := by decide +kernel
theorem dX8_init_467 : decode cX8_init 467 = .ok (.iastore, 1) := by decide +kernel
theorem dX8_init_468 : decode cX8_init 468 = .ok (.dup, 1) := by decide +kernel
theorem dX8_init_469 : decode cX8_init 469 = .ok (.iconst 5, 1) := by decide +kernel
theorem dX8_init_470 : decode cX8_init 470 = .ok (.bipush 19, 2) := by decide +kernel
theorem dX8_init_472 : decode cX8_init 472 = .ok (.iastore, 1) := by decide +kernel
theorem dX8_init_473 : decode cX8_init 473 = .ok (.dup, 1) := by decide +kernel
theorem dX8_init_474 : decode cX8_init 474 = .ok (.bipush 6, 2) := by decide +kernel
theorem dX8_init_476 : decode cX8_init 476 = .ok (.bipush 18, 2) := by decide +kernel
theorem dX8_init_478 : decode cX8_init 478 = .ok (.iastore, 1) := by decide +kernel
theorem dX8_init_479 : decode cX8_init 479 = .ok (.dup, 1) := by decide +kernel
theorem dX8_init_480 : decode cX8_init 480 = .ok (.bipush 7, 2) := by decide +kernel
theorem dX8_init_482 : decode cX8_init 482 = .ok (.bipush 35, 2) := by decide +kernel
theorem dX8_init_484 : decode cX8_init 484 = .ok (.iastore, 1) := by decide +kernel
theorem dX8_init_485 : decode cX8_init 485 = .ok (.dup, 1) := by decide +kernel
theorem dX8_init_486 : decode cX8_init 486 = .ok (.bipush 8, 2) := by decide +kernel
theorem dX8_init_488 : decode cX8_init 488 = .ok (.bipush 69, 2) := by decide +kernel
theorem dX8_init_490 : decode cX8_init 490 = .ok (.iastore, 1) := by decide +kernel
theorem dX8_init_491 : decode cX8_init 491 = .ok (.dup, 1) := by decide +kernel
theorem dX8_init_492 : decode cX8_init 492 = .ok (.bipush 9, 2) := by decide +kernel
theorem dX8_init_494 : decode cX8_init 494 = .ok (.bipush 68, 2) := by decide +kernel
theorem dX8_init_496 : decode cX8_init 496 = .ok (.iastore, 1) := by decide +kernel
theorem dX8_init_497 : decode cX8_init 497 = .ok (.dup, 1) := by decide +kernel
theorem dX8_init_498 : decode cX8_init 498 = .ok (.bipush 10, 2) := by decide +kernel
theorem dX8_init_500 : decode cX8_init 500 = .ok (.sipush 132, 3) := by decide +kernel
theorem dX8_init_503 : decode cX8_init 503 = .ok (.iastore, 1) := by decide +kernel
theorem dX8_init_504 : decode cX8_init 504 = .ok (.dup, 1) := by decide +kernel
theorem dX8_init_505 : decode cX8_init 505 = .ok (.bipush 11, 2) := by decide +kernel
theorem dX8_init_507 : decode cX8_init 507 = .ok (.sipush 133, 3) := by decide +kernel
theorem dX8_init_510 : decode cX8_init 510 = .ok (.iastore, 1) := by decide +kernel
theorem dX8_init_511 : decode cX8_init 511 = .ok (.dup, 1) := by decide +kernel
theorem dX8_init_512 : decode cX8_init 512 = .ok (.bipush 12, 2) := by decide +kernel
theorem dX8_init_514 : decode cX8_init 514 = .ok (.sipush 135, 3) := by decide +kernel
theorem dX8_init_517 : decode cX8_init 517 = .ok (.iastore, 1) := by decide +kernel
theorem dX8_init_518 : decode cX8_init 518 = .ok (.dup, 1) := by decide +kernel
theorem dX8_init_519 : decode cX8_init 519 = .ok (.bipush 13, 2) := by decide +kernel
theorem dX8_init_521 : decode cX8_init 521 = .ok (.sipush 260, 3) := by decide +kernel
theorem dX8_init_524 : decode cX8_init 524 = .ok (.iastore, 1) := by decide +kernel
theorem dX8_init_525 : decode cX8_init 525 = .ok (.dup, 1) := by decide +kernel
theorem dX8_init_526 : decode cX8_init 526 = .ok (.bipush 14, 2) := by decide +kernel
theorem dX8_init_528 : decode cX8_init 528 = .ok (.sipush 263, 3) := by decide +kernel
theorem dX8_init_531 : decode cX8_init 531 = .ok (.iastore, 1) := by decide +kernel
theorem dX8_init_532 : decode cX8_init 532 = .ok (.dup, 1) := by decide +kernel
theorem dX8_init_533 : decode cX8_init 533 = .ok (.bipush 15, 2) := by decide +kernel
theorem dX8_init_535 : decode cX8_init 535 = .ok (.sipush 536, 3) := by decide +kernel
theorem dX8_init_538 : decode cX8_init 538 = .ok (.iastore, 1) := by decide +kernel
theorem dX8_init_539 : decode cX8_init 539 = .ok (.dup, 1) := by decide +kernel
theorem dX8_init_540 : decode cX8_init 540 = .ok (.bipush 16, 2) := by decide +kernel
theorem dX8_init_542 : decode cX8_init 542 = .ok (.sipush 1047, 3) := by decide +kernel
theorem dX8_init_545 : decode cX8_init 545 = .ok (.iastore, 1) := by decide +kernel
theorem dX8_init_546 : decode cX8_init 546 = .ok (.dup, 1) := by decide +kernel
theorem dX8_init_547 : decode cX8_init 547 = .ok (.bipush 17, 2) := by decide +kernel
theorem dX8_init_549 : decode cX8_init 549 = .ok (.sipush 1048, 3) := by decide +kernel
theorem dX8_init_552 : decode cX8_init 552 = .ok (.iastore, 1) := by decide +kernel
theorem dX8_init_553 : decode cX8_init 553 = .ok (.dup, 1) := by decide +kernel
theorem dX8_init_554 : decode cX8_init 554 = .ok (.bipush 18, 2) := by decide +kernel
theorem dX8_init_556 : decode cX8_init 556 = .ok (.sipush 1032, 3) := by decide +kernel
theorem dX8_init_559 : decode cX8_init 559 = .ok (.iastore, 1) := by decide +kernel
theorem dX8_init_560 : decode cX8_init 560 = .ok (.dup, 1) := by decide +kernel
theorem dX8_init_561 : decode cX8_init 561 = .ok (.bipush 19, 2) := by decide +kernel
theorem dX8_init_563 : decode cX8_init 563 = .ok (.sipush 2151, 3) := by decide +kernel
theorem dX8_init_566 : decode cX8_init 566 = .ok (.iastore, 1) := by decide +kernel
theorem dX8_init_567 : decode cX8_init 567 = .ok (.dup, 1) := by decide +kernel
theorem dX8_init_568 : decode cX8_init 568 = .ok (.bipush 20, 2) := by decide +kernel
theorem dX8_init_570 : decode cX8_init 570 = .ok (.sipush 2152, 3) := by decide +kernel
theorem dX8_init_573 : decode cX8_init 573 = .ok (.iastore, 1) := by decide +kernel
theorem dX8_init_574 : decode cX8_init 574 = .ok (.dup, 1) := by decide +kernel
theorem dX8_init_575 : decode cX8_init 575 = .ok (.bipush 21, 2) := by decide +kernel
theorem dX8_init_577 : decode cX8_init 577 = .ok (.sipush 2156, 3) := by decide +kernel
theorem dX8_init_580 : decode cX8_init 580 = .ok (.iastore, 1) := by decide +kernel
theorem dX8_init_581 : decode cX8_init 581 = .ok (.dup, 1) := by decide +kernel
theorem dX8_init_582 : decode cX8_init 582 = .ok (.bipush 22, 2) := by decide +kernel
theorem dX8_init_584 : decode cX8_init 584 = .ok (.sipush 2103, 3) := by decide +kernel
theorem dX8_init_587 : decode cX8_init 587 = .ok (.iastore, 1) := by decide +kernel
theorem dX8_init_588 : decode cX8_init 588 = .ok (.dup, 1) := by decide +kernel
theorem dX8_init_589 : decode cX8_init 589 = .ok (.bipush 23, 2) := by decide +kernel
theorem dX8_init_591 : decode cX8_init 591 = .ok (.sipush 2088, 3) := by decide +kernel
theorem dX8_init_594 : decode cX8_init 594 = .ok (.iastore, 1) := by decide +kernel
theorem dX8_init_595 : decode cX8_init 595 = .ok (.dup, 1) := by decide +kernel
theorem dX8_init_596 : decode cX8_init 596 = .ok (.bipush 24, 2) := by decide +kernel
theorem dX8_init_598 : decode cX8_init 598 = .ok (.sipush 2071, 3) := by decide +kernel
theorem dX8_init_601 : decode cX8_init 601 = .ok (.iastore, 1) := by decide +kernel
theorem dX8_init_602 : decode cX8_init 602 = .ok (.dup, 1) := by decide +kernel
theorem dX8_init_603 : decode cX8_init 603 = .ok (.bipush 25, 2) := by decide +kernel
theorem dX8_init_605 : decode cX8_init 605 = .ok (.sipush 2072, 3) := by decide +kernel
theorem dX8_init_608 : decode cX8_init 608 = .ok (.iastore, 1) := by decide +kernel
theorem dX8_init_609 : decode cX8_init 609 = .ok (.dup, 1) := by decide +kernel
theorem dX8_init_610 : decode cX8_init 610 = .ok (.bipush 26, 2) := by decide +kernel
theorem dX8_init_612 : decode cX8_init 612 = .ok (.sipush 4298, 3) := by decide +kernel
theorem dX8_init_615 : decode cX8_init 615 = .ok (.iastore, 1) := by decide +kernel
theorem dX8_init_616 : decode cX8_init 616 = .ok (.dup, 1) := by decide +kernel
theorem dX8_init_617 : decode cX8_init 617 = .ok (.bipush 27, 2) := by decide +kernel
theorem dX8_init_619 : decode cX8_init 619 = .ok (.sipush 4299, 3) := by decide +kernel
theorem dX8_init_622 : decode cX8_init 622 = .ok (.iastore, 1) := by decide +kernel
theorem dX8_init_623 : decode cX8_init 623 = .ok (.dup, 1) := by decide +kernel
theorem dX8_init_624 : decode cX8_init 624 = .ok (.bipush 28, 2) := by decide +kernel
theorem dX8_init_626 : decode cX8_init 626 = .ok (.sipush 4300, 3) := by decide +kernel
theorem dX8_init_629 : decode cX8_init 629 = .ok (.iastore, 1) := by decide +kernel
theorem dX8_init_630 : decode cX8_init 630 = .ok (.dup, 1) := by decide +kernel
theorem dX8_init_631 : decode cX8_init 631 = .ok (.bipush 29, 2) := by decide +kernel
theorem dX8_init_633 : decode cX8_init 633 = .ok (.sipush 4301, 3) := by decide +kernel
theorem dX8_init_636 : decode cX8_init 636 = .ok (.iastore, 1) := by decide +kernel
theorem dX8_init_637 : decode cX8_init 637 = .ok (.dup, 1) := by decide +kernel
theorem dX8_init_638 : decode cX8_init 638 = .ok (.bipush 30, 2) := by decide +kernel
theorem dX8_init_640 : decode cX8_init 640 = .ok (.sipush 4200, 3) := by decide +kernel
theorem dX8_init_643 : decode cX8_init 643 = .ok (.iastore, 1) := by decide +kernel
theorem dX8_init_644 : decode cX8_init 644 = .ok (.dup, 1) := by decide +kernel
theorem dX8_init_645 : decode cX8_init 645 = .ok (.bipush 31, 2) := by decide +kernel
theorem dX8_init_647 : decode cX8_init 647 = .ok (.sipush 4201, 3) := by decide +kernel
theorem dX8_init_650 : decode cX8_init 650 = .ok (.iastore, 1) := by decide +kernel
theorem dX8_init_651 : decode cX8_init 651 = .ok (.dup, 1) := by decide +kernel
theorem dX8_init_652 : decode cX8_init 652 = .ok (.bipush 32, 2) := by decide +kernel
theorem dX8_init_654 : decode cX8_init 654 = .ok (.sipush 4202, 3) := by decide +kernel
theorem dX8_init_657 : decode cX8_init 657 = .ok (.iastore, 1) := by decide +kernel
theorem dX8_init_658 : decode cX8_init 658 = .ok (.dup, 1) := by decide +kernel
theorem dX8_init_659 : decode cX8_init 659 = .ok (.bipush 33, 2) := by decide +kernel
theorem dX8_init_661 : decode cX8_init 661 = .ok (.sipush 4203, 3) := by decide +kernel
theorem dX8_init_664 : decode cX8_init 664 = .ok (.iastore, 1) := by decide +kernel
theorem dX8_init_665 : decode cX8_init 665 = .ok (.dup, 1) := by decide +kernel
theorem dX8_init_666 : decode cX8_init 666 = .ok (.bipush 34, 2) := by decide +kernel
theorem dX8_init_668 : decode cX8_init 668 = .ok (.sipush 4306, 3) := by decide +kernel
theorem dX8_init_671 : decode cX8_init 671 = .ok (.iastore, 1) := by decide +kernel
theorem dX8_init_672 : decode cX8_init 672 = .ok (.dup, 1) := by decide +kernel
theorem dX8_init_673 : decode cX8_init 673 = .ok (.bipush 35, 2) := by decide +kernel
theorem dX8_init_675 : decode cX8_init 675 = .ok (.sipush 4307, 3) := by decide +kernel
theorem dX8_init_678 : decode cX8_init 678 = .ok (.iastore, 1) := by decide +kernel
theorem dX8_init_679 : decode cX8_init 679 = .ok (.dup, 1) := by decide +kernel
theorem dX8_init_680 : decode cX8_init 680 = .ok (.bipush 36, 2) := by decide +kernel
theorem dX8_init_682 : decode cX8_init 682 = .ok (.sipush 4308, 3) := by decide +kernel
theorem dX8_init_685 : decode cX8_init 685 = .ok (.iastore, 1) := by decide +kernel
theorem dX8_init_686 : decode cX8_init 686 = .ok (.dup, 1) := by decide +kernel
theorem dX8_init_687 : decode cX8_init 687 = .ok (.bipush 37, 2) := by decide +kernel
theorem dX8_init_689 : decode cX8_init 689 = .ok (.sipush 4309, 3) := by decide +kernel
theorem dX8_init_692 : decode cX8_init 692 = .ok (.iastore, 1) := by decide +kernel
theorem dX8_init_693 : decode cX8_init 693 = .ok (.dup, 1) := by decide +kernel
theorem dX8_init_694 : decode cX8_init 694 = .ok (.bipush 38, 2) := by decide +kernel
theorem dX8_init_696 : decode cX8_init 696 = .ok (.sipush 4310, 3) := by decide +kernel
theorem dX8_init_699 : decode cX8_init 699 = .ok (.iastore, 1) := by decide +kernel
theorem dX8_init_700 : decode cX8_init 700 = .ok (.dup, 1) := by decide +kernel
theorem dX8_init_701 : decode cX8_init 701 = .ok (.bipush 39, 2) := by decide +kernel
theorem dX8_init_703 : decode cX8_init 703 = .ok (.sipush 4311, 3) := by decide +kernel
theorem dX8_init_706 : decode cX8_init 706 = .ok (.iastore, 1) := by decide +kernel
theorem dX8_init_707 : decode cX8_init 707 = .ok (.dup, 1) := by decide +kernel
theorem dX8_init_708 : decode cX8_init 708 = .ok (.bipush 40, 2) := by decide +kernel
theorem dX8_init_710 : decode cX8_init 710 = .ok (.sipush 4204, 3) := by decide +kernel
theorem dX8_init_713 : decode cX8_init 713 = .ok (.iastore, 1) := by decide +kernel
theorem dX8_init_714 : decode cX8_init 714 = .ok (.dup, 1) := by decide +kernel
theorem dX8_init_715 : decode cX8_init 715 = .ok (.bipush 41, 2) := by decide +kernel
theorem dX8_init_717 : decode cX8_init 717 = .ok (.sipush 4205, 3) := by decide +kernel
theorem dX8_init_720 : decode cX8_init 720 = .ok (.iastore, 1) := by decide +kernel
theorem dX8_init_721 : decode cX8_init 721 = .ok (.dup, 1) := by decide +kernel
theorem dX8_init_722 : decode cX8_init 722 = .ok (.bipush 42, 2) := by decide +kernel
theorem dX8_init_724 : decode cX8_init 724 = .ok (.sipush 4314, 3) := by decide +kernel
theorem dX8_init_727 : decode cX8_init 727 = .ok (.iastore, 1) := by decide +kernel
theorem dX8_init_728 : decode cX8_init 728 = .ok (.dup, 1) := by decide +kernel
theorem dX8_init_729 : decode cX8_init 729 = .ok (.bipush 43, 2) := by decide +kernel
theorem dX8_init_731 : decode cX8_init 731 = .ok (.sipush 4315, 3) := by decide +kernel
theorem dX8_init_734 : decode cX8_init 734 = .ok (.iastore, 1) := by decide +kernel
theorem dX8_init_735 : decode cX8_init 735 = .ok (.dup, 1) := by decide +kernel
theorem dX8_init_736 : decode cX8_init 736 = .ok (.bipush 44, 2) := by decide +kernel
theorem dX8_init_738 : decode cX8_init 738 = .ok (.sipush 4180, 3) := by decide +kernel
theorem dX8_init_741 : decode cX8_init 741 = .ok (.iastore, 1) := by decide +kernel
theorem dX8_init_742 : decode cX8_init 742 = .ok (.dup, 1) := by decide +kernel
theorem dX8_init_743 : decode cX8_init 743 = .ok (.bipush 45, 2) := by decide +kernel
theorem dX8_init_745 : decode cX8_init 745 = .ok (.sipush 4181, 3) := by decide +kernel
theorem dX8_init_748 : decode cX8_init 748 = .ok (.iastore, 1) := by decide +kernel
theorem dX8_init_749 : decode cX8_init 749 = .ok (.dup, 1) := by decide +kernel
theorem dX8_init_750 : decode cX8_init 750 = .ok (.bipush 46, 2) := by decide +kernel
theorem dX8_init_752 : decode cX8_init 752 = .ok (.sipush 4182, 3) := by decide +kernel
theorem dX8_init_755 : decode cX8_init 755 = .ok (.iastore, 1) := by decide +kernel
theorem dX8_init_756 : decode cX8_init 756 = .ok (.dup, 1) := by decide +kernel
theorem dX8_init_757 : decode cX8_init 757 = .ok (.bipush 47, 2) := by decide +kernel
theorem dX8_init_759 : decode cX8_init 759 = .ok (.sipush 4183, 3) := by decide +kernel
theorem dX8_init_762 : decode cX8_init 762 = .ok (.iastore, 1) := by decide +kernel
theorem dX8_init_763 : decode cX8_init 763 = .ok (.dup, 1) := by decide +kernel
theorem dX8_init_764 : decode cX8_init 764 = .ok (.bipush 48, 2) := by decide +kernel
theorem dX8_init_766 : decode cX8_init 766 = .ok (.sipush 4196, 3) := by decide +kernel
theorem dX8_init_769 : decode cX8_init 769 = .ok (.iastore, 1) := by decide +kernel
theorem dX8_init_770 : decode cX8_init 770 = .ok (.dup, 1) := by decide +kernel
theorem dX8_init_771 : decode cX8_init 771 = .ok (.bipush 49, 2) := by decide +kernel
theorem dX8_init_773 : decode cX8_init 773 = .ok (.sipush 4197, 3) := by decide +kernel
theorem dX8_init_776 : decode cX8_init 776 = .ok (.iastore, 1) := by decide +kernel
theorem dX8_init_777 : decode cX8_init 777 = .ok (.dup, 1) := by decide +kernel
theorem dX8_init_778 : decode cX8_init 778 = .ok (.bipush 50, 2) := by decide +kernel
theorem dX8_init_780 : decode cX8_init 780 = .ok (.sipush 4178, 3) := by decide +kernel
theorem dX8_init_783 : decode cX8_init 783 = .ok (.iastore, 1) := by decide +kernel
theorem dX8_init_784 : decode cX8_init 784 = .ok (.dup, 1) := by decide +kernel
theorem dX8_init_785 : decode cX8_init 785 = .ok (.bipush 51, 2) := by decide +kernel
theorem dX8_init_787 : decode cX8_init 787 = .ok (.sipush 4179, 3) := by decide +kernel
theorem dX8_init_790 : decode cX8_init 790 = .ok (.iastore, 1) := by decide +kernel
theorem dX8_init_791 : decode cX8_init 791 = .ok (.dup, 1) := by decide +kernel
theorem dX8_init_792 : decode cX8_init 792 = .ok (.bipush 52, 2) := by decide +kernel
theorem dX8_init_794 : decode cX8_init 794 = .ok (.sipush 4132, 3) := by decide +kernel
theorem dX8_init_797 : decode cX8_init 797 = .ok (.iastore, 1) := by decide +kernel
theorem dX8_init_798 : decode cX8_init 798 = .ok (.dup, 1) := by decide +kernel
theorem dX8_init_799 : decode cX8_init 799 = .ok (.bipush 53, 2) := by decide +kernel
theorem dX8_init_801 : decode cX8_init 801 = .ok (.sipush 4151, 3) := by decide +kernel
theorem dX8_init_804 : decode cX8_init 804 = .ok (.iastore, 1) := by decide +kernel
theorem dX8_init_805 : decode cX8_init 805 = .ok (.dup, 1) := by decide +kernel
theorem dX8_init_806 : decode cX8_init 806 = .ok (.bipush 54, 2) := by decide +kernel
theorem dX8_init_808 : decode cX8_init 808 = .ok (.sipush 4152, 3) := by decide +kernel
theorem dX8_init_811 : decode cX8_init 811 = .ok (.iastore, 1) := by decide +kernel
theorem dX8_init_812 : decode cX8_init 812 = .ok (.dup, 1) := by decide +kernel
theorem dX8_init_813 : decode cX8_init 813 = .ok (.bipush 55, 2) := by decide +kernel
theorem dX8_init_815 : decode cX8_init 815 = .ok (.sipush 4135, 3) := by decide +kernel
theorem dX8_init_818 : decode cX8_init 818 = .ok (.iastore, 1) := by decide +kernel
theorem dX8_init_819 : decode cX8_init 819 = .ok (.dup, 1) := by decide +kernel
theorem dX8_init_820 : decode cX8_init 820 = .ok (.bipush 56, 2) := by decide +kernel
theorem dX8_init_822 : decode cX8_init 822 = .ok (.sipush 4136, 3) := by decide +kernel
theorem dX8_init_825 : decode cX8_init 825 = .ok (.iastore, 1) := by decide +kernel
theorem dX8_init_826 : decode cX8_init 826 = .ok (.dup, 1) := by decide +kernel
theorem dX8_init_827 : decode cX8_init 827 = .ok (.bipush 57, 2) := by decide +kernel
theorem dX8_init_829 : decode cX8_init 829 = .ok (.sipush 4184, 3) := by decide +kernel
theorem dX8_init_832 : decode cX8_init 832 = .ok (.iastore, 1) := by decide +kernel
theorem dX8_init_833 : decode cX8_init 833 = .ok (.dup, 1) := by decide +kernel
theorem dX8_init_834 : decode cX8_init 834 = .ok (.bipush 58, 2) := by decide +kernel
theorem dX8_init_836 : decode cX8_init 836 = .ok (.sipush 4185, 3) := by decide +kernel
theorem dX8_init_839 : decode cX8_init 839 = .ok (.iastore, 1) := by decide +kernel
theorem dX8_init_840 : decode cX8_init 840 = .ok (.dup, 1) := by decide +kernel
theorem dX8_init_841 : decode cX8_init 841 = .ok (.bipush 59, 2) := by decide +kernel
theorem dX8_init_843 : decode cX8_init 843 = .ok (.sipush 4139, 3) := by decide +kernel
theorem dX8_init_846 : decode cX8_init 846 = .ok (.iastore, 1) := by decide +kernel
theorem dX8_init_847 : decode cX8_init 847 = .ok (.dup, 1) := by decide +kernel
theorem dX8_init_848 : decode cX8_init 848 = .ok (.bipush 60, 2) := by decide +kernel
theorem dX8_init_850 : decode cX8_init 850 = .ok (.sipush 4140, 3) := by decide +kernel
theorem dX8_init_853 : decode cX8_init 853 = .ok (.iastore, 1) := by decide +kernel
theorem dX8_init_854 : decode cX8_init 854 = .ok (.dup, 1) := by decide +kernel
theorem dX8_init_855 : decode cX8_init 855 = .ok (.bipush 61, 2) := by decide +kernel
theorem dX8_init_857 : decode cX8_init 857 = .ok (.sipush 4186, 3) := by decide +kernel
theorem dX8_init_860 : decode cX8_init 860 = .ok (.iastore, 1) := by decide +kernel
theorem dX8_init_861 : decode cX8_init 861 = .ok (.dup, 1) := by decide +kernel
theorem dX8_init_862 : decode cX8_init 862 = .ok (.bipush 62, 2) := by decide +kernel
theorem dX8_init_864 : decode cX8_init 864 = .ok (.sipush 4198, 3) := by decide +kernel
theorem dX8_init_867 : decode cX8_init 867 = .ok (.iastore, 1) := by decide +kernel
theorem dX8_init_868 : decode cX8_init 868 = .ok (.dup, 1) := by decide +kernel
theorem dX8_init_869 : decode cX8_init 869 = .ok (.bipush 63, 2) := by decide +kernel
theorem dX8_init_871 : decode cX8_init 871 = .ok (.sipush 4199, 3) := by decide +kernel
theorem dX8_init_874 : decode cX8_init 874 = .ok (.iastore, 1) := by decide +kernel
theorem dX8_init_875 : decode cX8_init 875 = .ok (.putfield 13, 3) := by decide +kernel
theorem dX8_init_878 : decode cX8_init 878 = .ok (.aload_n 0, 1) := by decide +kernel
theorem dX8_init_879 : decode cX8_init 879 = .ok (.bipush 27, 2) := by decide +kernel
theorem dX8_init_881 : decode cX8_init 881 = .ok (.newarray .int, 2) := by decide +kernel
theorem dX8_init_883 : decode cX8_init 883 = .ok (.dup, 1) := by decide +kernel
theorem dX8_init_884 : decode cX8_init 884 = .ok (.iconst 0, 1) := by decide +kernel
theorem dX8_init_885 : decode cX8_init 885 = .ok (.bipush 59, 2) := by decide +kernel
theorem dX8_init_887 : decode cX8_init 887 = .ok (.iastore, 1) := by decide +kernel
theorem dX8_init_888 : decode cX8_init 888 = .ok (.dup, 1) := by decide +kernel
theorem dX8_init_889 : decode cX8_init 889 = .ok (.iconst 1, 1) := by decide +kernel
theorem dX8_init_890 : decode cX8_init 890 = .ok (.bipush 50, 2) := by decide +kernel
theorem dX8_init_892 : decode cX8_init 892 = .ok (.iastore, 1) := by decide +kernel
theorem dX8_init_893 : decode cX8_init 893 = .ok (.dup, 1) := by decide +kernel
theorem dX8_init_894 : decode cX8_init 894 = .ok (.iconst 2, 1) := by decide +kernel
theorem dX8_init_895 : decode cX8_init 895 = .ok (.bipush 87, 2) := by decide +kernel
theorem dX8_init_897 : decode cX8_init 897 = .ok (.iastore, 1) := by decide +kernel
theorem dX8_init_898 : decode cX8_init 898 = .ok (.dup, 1) := by decide +kernel
theorem dX8_init_899 : decode cX8_init 899 = .ok (.iconst 3, 1) := by decide +kernel
theorem dX8_init_900 : decode cX8_init 900 = .ok (.sipush 183, 3) := by decide +kernel
theorem dX8_init_903 : decode cX8_init 903 = .ok (.iastore, 1) := by decide +kernel
theorem dX8_init_904 : decode cX8_init 904 = .ok (.dup, 1) := by decide +kernel
theorem dX8_init_905 : decode cX8_init 905 = .ok (.iconst 4, 1) := by decide +kernel
theorem dX8_init_906 : decode cX8_init 906 = .ok (.sipush 310, 3) := by decide +kernel
theorem dX8_init_909 : decode cX8_init 909 = .ok (.iastore, 1) := by decide +kernel
theorem dX8_init_910 : decode cX8_init 910 = .ok (.dup, 1) := by decide +kernel
theorem dX8_init_911 : decode cX8_init 911 = .ok (.iconst 5, 1) := by decide +kernel
theorem dX8_init_912 : decode cX8_init 912 = .ok (.sipush 311, 3) := by decide +kernel
theorem dX8_init_915 : decode cX8_init 915 = .ok (.iastore, 1) := by decide +kernel
theorem dX8_init_916 : decode cX8_init 916 = .ok (.dup, 1) := by decide +kernel
theorem dX8_init_917 : decode cX8_init 917 = .ok (.bipush 6, 2) := by decide +kernel
theorem dX8_init_919 : decode cX8_init 919 = .ok (.sipush 356, 3) := by decide +kernel
theorem dX8_init_922 : decode cX8_init 922 = .ok (.iastore, 1) := by decide +kernel
theorem dX8_init_923 : decode cX8_init 923 = .ok (.dup, 1) := by decide +kernel
theorem dX8_init_924 : decode cX8_init 924 = .ok (.bipush 7, 2) := by decide +kernel
theorem dX8_init_926 : decode cX8_init 926 = .ok (.sipush 357, 3) := by decide +kernel
theorem dX8_init_929 : decode cX8_init 929 = .ok (.iastore, 1) := by decide +kernel
theorem dX8_init_930 : decode cX8_init 930 = .ok (.dup, 1) := by decide +kernel
theorem dX8_init_931 : decode cX8_init 931 = .ok (.bipush 8, 2) := by decide +kernel
theorem dX8_init_933 : decode cX8_init 933 = .ok (.sipush 360, 3) := by decide +kernel
theorem dX8_init_936 : decode cX8_init 936 = .ok (.iastore, 1) := by decide +kernel
theorem dX8_init_937 : decode cX8_init 937 = .ok (.dup, 1) := by decide +kernel
theorem dX8_init_938 : decode cX8_init 938 = .ok (.bipush 9, 2) := by decide +kernel
theorem dX8_init_940 : decode cX8_init 940 = .ok (.sipush 359, 3) := by decide +kernel
theorem dX8_init_943 : decode cX8_init 943 = .ok (.iastore, 1) := by decide +kernel
theorem dX8_init_944 : decode cX8_init 944 = .ok (.dup, 1) := by decide +kernel
theorem dX8_init_945 : decode cX8_init 945 = .ok (.bipush 10, 2) := by decide +kernel
theorem dX8_init_947 : decode cX8_init 947 = .ok (.sipush 716, 3) := by decide +kernel
theorem dX8_init_950 : decode cX8_init 950 = .ok (.iastore, 1) := by decide +kernel
theorem dX8_init_951 : decode cX8_init 951 = .ok (.dup, 1) := by decide +kernel
theorem dX8_init_952 : decode cX8_init 952 = .ok (.bipush 11, 2) := by decide +kernel
theorem dX8_init_954 : decode cX8_init 954 = .ok (.sipush 717, 3) := by decide +kernel
theorem dX8_init_957 : decode cX8_init 957 = .ok (.iastore, 1) := by decide +kernel
theorem dX8_init_958 : decode cX8_init 958 = .ok (.dup, 1) := by decide +kernel
theorem dX8_init_959 : decode cX8_init 959 = .ok (.bipush 12, 2) := by decide +kernel
theorem dX8_init_961 : decode cX8_init 961 = .ok (.sipush 722, 3) := by decide +kernel
theorem dX8_init_964 : decode cX8_init 964 = .ok (.iastore, 1) := by decide +kernel
theorem dX8_init_965 : decode cX8_init 965 = .ok (.dup, 1) := by decide +kernel
theorem dX8_init_966 : decode cX8_init 966 = .ok (.bipush 13, 2) := by decide +kernel
theorem dX8_init_968 : decode cX8_init 968 = .ok (.sipush 723, 3) := by decide +kernel
theorem dX8_init_971 : decode cX8_init 971 = .ok (.iastore, 1) := by decide +kernel
theorem dX8_init_972 : decode cX8_init 972 = .ok (.dup, 1) := by decide +kernel
theorem dX8_init_973 : decode cX8_init 973 = .ok (.bipush 14, 2) := by decide +kernel
theorem dX8_init_975 : decode cX8_init 975 = .ok (.sipush 724, 3) := by decide +kernel
theorem dX8_init_978 : decode cX8_init 978 = .ok (.iastore, 1) := by decide +kernel
theorem dX8_init_979 : decode cX8_init 979 = .ok (.dup, 1) := by decide +kernel
theorem dX8_init_980 : decode cX8_init 980 = .ok (.bipush 15, 2) := by decide +kernel
theorem dX8_init_982 : decode cX8_init 982 = .ok (.sipush 725, 3) := by decide +kernel
theorem dX8_init_985 : decode cX8_init 985 = .ok (.iastore, 1) := by decide +kernel
theorem dX8_init_986 : decode cX8_init 986 = .ok (.dup, 1) := by decide +kernel
theorem dX8_init_987 : decode cX8_init 987 = .ok (.bipush 16, 2) := by decide +kernel
theorem dX8_init_989 : decode cX8_init 989 = .ok (.sipush 726, 3) := by decide +kernel
theorem dX8_init_992 : decode cX8_init 992 = .ok (.iastore, 1) := by decide +kernel
theorem dX8_init_993 : decode cX8_init 993 = .ok (.dup, 1) := by decide +kernel
theorem dX8_init_994 : decode cX8_init 994 = .ok (.bipush 17, 2) := by decide +kernel
theorem dX8_init_996 : decode cX8_init 996 = .ok (.sipush 727, 3) := by decide +kernel
theorem dX8_init_999 : decode cX8_init 999 = .ok (.iastore, 1) := by decide +kernel
theorem dX8_init_1000 : decode cX8_init 1000 = .ok (.dup, 1) := by decide +kernel
theorem dX8_init_1001 : decode cX8_init 1001 = .ok (.bipush 18, 2) := by decide +kernel
theorem dX8_init_1003 : decode cX8_init 1003 = .ok (.sipush 728, 3) := by decide +kernel
theorem dX8_init_1006 : decode cX8_init 1006 = .ok (.iastore, 1) := by decide +kernel
theorem dX8_init_1007 : decode cX8_init 1007 = .ok (.dup, 1) := by decide +kernel
theorem dX8_init_1008 : decode cX8_init 1008 = .ok (.bipush 19, 2) := by decide +kernel
theorem dX8_init_1010 : decode cX8_init 1010 = .ok (.sipush 729, 3) := by decide +kernel
theorem dX8_init_1013 : decode cX8_init 1013 = .ok (.iastore, 1) := by decide +kernel
theorem dX8_init_1014 : decode cX8_init 1014 = .ok (.dup, 1) := by decide +kernel
theorem dX8_init_1015 : decode cX8_init 1015 = .ok (.bipush 20, 2) := by decide +kernel
theorem dX8_init_1017 : decode cX8_init 1017 = .ok (.sipush 730, 3) := by decide +kernel
theorem dX8_init_1020 : decode cX8_init 1020 = .ok (.iastore, 1) := by decide +kernel
theorem dX8_init_1021 : decode cX8_init 1021 = .ok (.dup, 1) := by decide +kernel
theorem dX8_init_1022 : decode cX8_init 1022 = .ok (.bipush 21, 2) := by decide +kernel
theorem dX8_init_1024 : decode cX8_init 1024 = .ok (.sipush 731, 3) := by decide +kernel
theorem dX8_init_1027 : decode cX8_init 1027 = .ok (.iastore, 1) := by decide +kernel
theorem dX8_init_1028 : decode cX8_init 1028 = .ok (.dup, 1) := by decide +kernel
theorem dX8_init_1029 : decode cX8_init 1029 = .ok (.bipush 22, 2) := by decide +kernel
theorem dX8_init_1031 : decode cX8_init 1031 = .ok (.sipush 664, 3) := by decide +kernel
theorem dX8_init_1034 : decode cX8_init 1034 = .ok (.iastore, 1) := by decide +kernel
theorem dX8_init_1035 : decode cX8_init 1035 = .ok (.dup, 1) := by decide +kernel
theorem dX8_init_1036 : decode cX8_init 1036 = .ok (.bipush 23, 2) := by decide +kernel
theorem dX8_init_1038 : decode cX8_init 1038 = .ok (.sipush 665, 3) := by decide +kernel
theorem dX8_init_1041 : decode cX8_init 1041 = .ok (.iastore, 1) := by decide +kernel
theorem dX8_init_1042 : decode cX8_init 1042 = .ok (.dup, 1) := by decide +kernel
theorem dX8_init_1043 : decode cX8_init 1043 = .ok (.bipush 24, 2) := by decide +kernel
theorem dX8_init_1045 : decode cX8_init 1045 = .ok (.sipush 666, 3) := by decide +kernel
theorem dX8_init_1048 : decode cX8_init 1048 = .ok (.iastore, 1) := by decide +kernel
theorem dX8_init_1049 : decode cX8_init 1049 = .ok (.dup, 1) := by decide +kernel
theorem dX8_init_1050 : decode cX8_init 1050 = .ok (.bipush 25, 2) := by decide +kernel
theorem dX8_init_1052 : decode cX8_init 1052 = .ok (.bipush 88, 2) := by decide +kernel
theorem dX8_init_1054 : decode cX8_init 1054 = .ok (.iastore, 1) := by decide +kernel
theorem dX8_init_1055 : decode cX8_init 1055 = .ok (.dup, 1) := by decide +kernel
theorem dX8_init_1056 : decode cX8_init 1056 = .ok (.bipush 26, 2) := by decide +kernel
theorem dX8_init_1058 : decode cX8_init 1058 = .ok (.sipush 667, 3) := by decide +kernel
theorem dX8_init_1061 : decode cX8_init 1061 = .ok (.iastore, 1) := by decide +kernel
theorem dX8_init_1062 : decode cX8_init 1062 = .ok (.putfield 16, 3) := by decide +kernel
theorem dX8_init_1065 : decode cX8_init 1065 = .ok (.aload_n 0, 1) := by decide +kernel
theorem dX8_init_1066 : decode cX8_init 1066 = .ok (.bipush 27, 2) := by decide +kernel
theorem dX8_init_1068 : decode cX8_init 1068 = .ok (.newarray .int, 2) := by decide +kernel
theorem dX8_init_1070 : decode cX8_init 1070 = .ok (.dup, 1) := by decide +kernel
theorem dX8_init_1071 : decode cX8_init 1071 = .ok (.iconst 0, 1) := by decide +kernel
theorem dX8_init_1072 : decode cX8_init 1072 = .ok (.sipush 1039, 3) := by decide +kernel
theorem dX8_init_1075 : decode cX8_init 1075 = .ok (.iastore, 1) := by decide +kernel
theorem dX8_init_1076 : decode cX8_init 1076 = .ok (.dup, 1) := by decide +kernel
theorem dX8_init_1077 : decode cX8_init 1077 = .ok (.iconst 1, 1) := by decide +kernel
theorem dX8_init_1078 : decode cX8_init 1078 = .ok (.sipush 4296, 3) := by decide +kernel
theorem dX8_init_1081 : decode cX8_init 1081 = .ok (.iastore, 1) := by decide +kernel
theorem dX8_init_1082 : decode cX8_init 1082 = .ok (.dup, 1) := by decide +kernel
theorem dX8_init_1083 : decode cX8_init 1083 = .ok (.iconst 2, 1) := by decide +kernel
theorem dX8_init_1084 : decode cX8_init 1084 = .ok (.sipush 4297, 3) := by decide +kernel
theorem dX8_init_1087 : decode cX8_init 1087 = .ok (.iastore, 1) := by decide +kernel
theorem dX8_init_1088 : decode cX8_init 1088 = .ok (.dup, 1) := by decide +kernel
theorem dX8_init_1089 : decode cX8_init 1089 = .ok (.iconst 3, 1) := by decide +kernel
theorem dX8_init_1090 : decode cX8_init 1090 = .ok (.sipush 4187, 3) := by decide +kernel
theorem dX8_init_1093 : decode cX8_init 1093 = .ok (.iastore, 1) := by decide +kernel
theorem dX8_init_1094 : decode cX8_init 1094 = .ok (.dup, 1) := by decide +kernel
theorem dX8_init_1095 : decode cX8_init 1095 = .ok (.iconst 4, 1) := by decide +kernel
theorem dX8_init_1096 : decode cX8_init 1096 = .ok (.sipush 4147, 3) := by decide +kernel
theorem dX8_init_1099 : decode cX8_init 1099 = .ok (.iastore, 1) := by decide +kernel
theorem dX8_init_1100 : decode cX8_init 1100 = .ok (.dup, 1) := by decide +kernel
theorem dX8_init_1101 : decode cX8_init 1101 = .ok (.iconst 5, 1) := by decide +kernel
theorem dX8_init_1102 : decode cX8_init 1102 = .ok (.sipush 4148, 3) := by decide +kernel
theorem dX8_init_1105 : decode cX8_init 1105 = .ok (.iastore, 1) := by decide +kernel
theorem dX8_init_1106 : decode cX8_init 1106 = .ok (.dup, 1) := by decide +kernel
theorem dX8_init_1107 : decode cX8_init 1107 = .ok (.bipush 6, 2) := by decide +kernel
theorem dX8_init_1109 : decode cX8_init 1109 = .ok (.sipush 4149, 3) := by decide +kernel
theorem dX8_init_1112 : decode cX8_init 1112 = .ok (.iastore, 1) := by decide +kernel
theorem dX8_init_1113 : decode cX8_init 1113 = .ok (.dup, 1) := by decide +kernel
theorem dX8_init_1114 : decode cX8_init 1114 = .ok (.bipush 7, 2) := by decide +kernel
theorem dX8_init_1116 : decode cX8_init 1116 = .ok (.sipush 8300, 3) := by decide +kernel
theorem dX8_init_1119 : decode cX8_init 1119 = .ok (.iastore, 1) := by decide +kernel
theorem dX8_init_1120 : decode cX8_init 1120 = .ok (.dup, 1) := by decide +kernel
theorem dX8_init_1121 : decode cX8_init 1121 = .ok (.bipush 8, 2) := by decide +kernel
theorem dX8_init_1123 : decode cX8_init 1123 = .ok (.sipush 8301, 3) := by decide +kernel
theorem dX8_init_1126 : decode cX8_init 1126 = .ok (.iastore, 1) := by decide +kernel
theorem dX8_init_1127 : decode cX8_init 1127 = .ok (.dup, 1) := by decide +kernel
theorem dX8_init_1128 : decode cX8_init 1128 = .ok (.bipush 9, 2) := by decide +kernel
theorem dX8_init_1130 : decode cX8_init 1130 = .ok (.sipush 8266, 3) := by decide +kernel
theorem dX8_init_1133 : decode cX8_init 1133 = .ok (.iastore, 1) := by decide +kernel
theorem dX8_init_1134 : decode cX8_init 1134 = .ok (.dup, 1) := by decide +kernel
theorem dX8_init_1135 : decode cX8_init 1135 = .ok (.bipush 10, 2) := by decide +kernel
theorem dX8_init_1137 : decode cX8_init 1137 = .ok (.sipush 8267, 3) := by decide +kernel
theorem dX8_init_1140 : decode cX8_init 1140 = .ok (.iastore, 1) := by decide +kernel
theorem dX8_init_1141 : decode cX8_init 1141 = .ok (.dup, 1) := by decide +kernel
theorem dX8_init_1142 : decode cX8_init 1142 = .ok (.bipush 11, 2) := by decide +kernel
theorem dX8_init_1144 : decode cX8_init 1144 = .ok (.sipush 8268, 3) := by decide +kernel
theorem dX8_init_1147 : decode cX8_init 1147 = .ok (.iastore, 1) := by decide +kernel
theorem dX8_init_1148 : decode cX8_init 1148 = .ok (.dup, 1) := by decide +kernel
theorem dX8_init_1149 : decode cX8_init 1149 = .ok (.bipush 12, 2) := by decide +kernel
theorem dX8_init_1151 : decode cX8_init 1151 = .ok (.sipush 8269, 3) := by decide +kernel
theorem dX8_init_1154 : decode cX8_init 1154 = .ok (.iastore, 1) := by decide +kernel
theorem dX8_init_1155 : decode cX8_init 1155 = .ok (.dup, 1) := by decide +kernel
theorem dX8_init_1156 : decode cX8_init 1156 = .ok (.bipush 13, 2) := by decide +kernel
theorem dX8_init_1158 : decode cX8_init 1158 = .ok (.sipush 8306, 3) := by decide +kernel
theorem dX8_init_1161 : decode cX8_init 1161 = .ok (.iastore, 1) := by decide +kernel
theorem dX8_init_1162 : decode cX8_init 1162 = .ok (.dup, 1) := by decide +kernel
theorem dX8_init_1163 : decode cX8_init 1163 = .ok (.bipush 14, 2) := by decide +kernel
theorem dX8_init_1165 : decode cX8_init 1165 = .ok (.sipush 8307, 3) := by decide +kernel
theorem dX8_init_1168 : decode cX8_init 1168 = .ok (.iastore, 1) := by decide +kernel
theorem dX8_init_1169 : decode cX8_init 1169 = .ok (.dup, 1) := by decide +kernel
theorem dX8_init_1170 : decode cX8_init 1170 = .ok (.bipush 15, 2) := by decide +kernel
theorem dX8_init_1172 : decode cX8_init 1172 = .ok (.sipush 8308, 3) := by decide +kernel
theorem dX8_init_1175 : decode cX8_init 1175 = .ok (.iastore, 1) := by decide +kernel
theorem dX8_init_1176 : decode cX8_init 1176 = .ok (.dup, 1) := by decide +kernel
theorem dX8_init_1177 : decode cX8_init 1177 = .ok (.bipush 16, 2) := by decide +kernel
theorem dX8_init_1179 : decode cX8_init 1179 = .ok (.sipush 8309, 3) := by decide +kernel
theorem dX8_init_1182 : decode cX8_init 1182 = .ok (.iastore, 1) := by decide +kernel
theorem dX8_init_1183 : decode cX8_init 1183 = .ok (.dup, 1) := by decide +kernel
theorem dX8_init_1184 : decode cX8_init 1184 = .ok (.bipush 17, 2) := by decide +kernel
theorem dX8_init_1186 : decode cX8_init 1186 = .ok (.sipush 8310, 3) := by decide +kernel
theorem dX8_init_1189 : decode cX8_init 1189 = .ok (.iastore, 1) := by decide +kernel
theorem dX8_init_1190 : decode cX8_init 1190 = .ok (.dup, 1) := by decide +kernel
theorem dX8_init_1191 : decode cX8_init 1191 = .ok (.bipush 18, 2) := by decide +kernel
theorem dX8_init_1193 : decode cX8_init 1193 = .ok (.sipush 8311, 3) := by decide +kernel
theorem dX8_init_1196 : decode cX8_init 1196 = .ok (.iastore, 1) := by decide +kernel
theorem dX8_init_1197 : decode cX8_init 1197 = .ok (.dup, 1) := by decide +kernel
theorem dX8_init_1198 : decode cX8_init 1198 = .ok (.bipush 19, 2) := by decide +kernel
theorem dX8_init_1200 : decode cX8_init 1200 = .ok (.sipush 8274, 3) := by decide +kernel
theorem dX8_init_1203 : decode cX8_init 1203 = .ok (.iastore, 1) := by decide +kernel
theorem dX8_init_1204 : decode cX8_init 1204 = .ok (.dup, 1) := by decide +kernel
theorem dX8_init_1205 : decode cX8_init 1205 = .ok (.bipush 20, 2) := by decide +kernel
theorem dX8_init_1207 : decode cX8_init 1207 = .ok (.sipush 8275, 3) := by decide +kernel
theorem dX8_init_1210 : decode cX8_init 1210 = .ok (.iastore, 1) := by decide +kernel
theorem dX8_init_1211 : decode cX8_init 1211 = .ok (.dup, 1) := by decide +kernel
theorem dX8_init_1212 : decode cX8_init 1212 = .ok (.bipush 21, 2) := by decide +kernel
theorem dX8_init_1214 : decode cX8_init 1214 = .ok (.sipush 8276, 3) := by decide +kernel
theorem dX8_init_1217 : decode cX8_init 1217 = .ok (.iastore, 1) := by decide +kernel
theorem dX8_init_1218 : decode cX8_init 1218 = .ok (.dup, 1) := by decide +kernel
theorem dX8_init_1219 : decode cX8_init 1219 = .ok (.bipush 22, 2) := by decide +kernel
theorem dX8_init_1221 : decode cX8_init 1221 = .ok (.sipush 8277, 3) := by decide +kernel
theorem dX8_init_1224 : decode cX8_init 1224 = .ok (.iastore, 1) := by decide +kernel
theorem dX8_init_1225 : decode cX8_init 1225 = .ok (.dup, 1) := by decide +kernel
theorem dX8_init_1226 : decode cX8_init 1226 = .ok (.bipush 23, 2) := by decide +kernel
theorem dX8_init_1228 : decode cX8_init 1228 = .ok (.sipush 8282, 3) := by decide +kernel
theorem dX8_init_1231 : decode cX8_init 1231 = .ok (.iastore, 1) := by decide +kernel
theorem dX8_init_1232 : decode cX8_init 1232 = .ok (.dup, 1) := by decide +kernel
theorem dX8_init_1233 : decode cX8_init 1233 = .ok (.bipush 24, 2) := by decide +kernel
theorem dX8_init_1235 : decode cX8_init 1235 = .ok (.sipush 8283, 3) := by decide +kernel
theorem dX8_init_1238 : decode cX8_init 1238 = .ok (.iastore, 1) := by decide +kernel
theorem dX8_init_1239 : decode cX8_init 1239 = .ok (.dup, 1) := by decide +kernel
theorem dX8_init_1240 : decode cX8_init 1240 = .ok (.bipush 25, 2) := by decide +kernel
theorem dX8_init_1242 : decode cX8_init 1242 = .ok (.sipush 8292, 3) := by decide +kernel
theorem dX8_init_1245 : decode cX8_init 1245 = .ok (.iastore, 1) := by decide +kernel
theorem dX8_init_1246 : decode cX8_init 1246 = .ok (.dup, 1) := by decide +kernel
theorem dX8_init_1247 : decode cX8_init 1247 = .ok (.bipush 26, 2) := by decide +kernel
theorem dX8_init_1249 : decode cX8_init 1249 = .ok (.sipush 8293, 3) := by decide +kernel
theorem dX8_init_1252 : decode cX8_init 1252 = .ok (.iastore, 1) := by decide +kernel
theorem dX8_init_1253 : decode cX8_init 1253 = .ok (.putfield 19, 3) := by decide +kernel
theorem dX8_init_1256 : decode cX8_init 1256 = .ok (.aload_n 0, 1) := by decide +kernel
theorem dX8_init_1257 : decode cX8_init 1257 = .ok (.bipush 13, 2) := by decide +kernel
theorem dX8_init_1259 : decode cX8_init 1259 = .ok (.newarray .int, 2) := by decide +kernel
theorem dX8_init_1261 : decode cX8_init 1261 = .ok (.dup, 1) := by decide +kernel
theorem dX8_init_1262 : decode cX8_init 1262 = .ok (.iconst 0, 1) := by decide +kernel
theorem dX8_init_1263 : decode cX8_init 1263 = .ok (.sipush 2056, 3) := by decide +kernel
theorem dX8_init_1266 : decode cX8_init 1266 = .ok (.iastore, 1) := by decide +kernel
theorem dX8_init_1267 : decode cX8_init 1267 = .ok (.dup, 1) := by decide +kernel
theorem dX8_init_1268 : decode cX8_init 1268 = .ok (.iconst 1, 1) := by decide +kernel
theorem dX8_init_1269 : decode cX8_init 1269 = .ok (.sipush 2060, 3) := by decide +kernel
theorem dX8_init_1272 : decode cX8_init 1272 = .ok (.iastore, 1) := by decide +kernel
theorem dX8_init_1273 : decode cX8_init 1273 = .ok (.dup, 1) := by decide +kernel
theorem dX8_init_1274 : decode cX8_init 1274 = .ok (.iconst 2, 1) := by decide +kernel
theorem dX8_init_1275 : decode cX8_init 1275 = .ok (.sipush 2061, 3) := by decide +kernel
theorem dX8_init_1278 : decode cX8_init 1278 = .ok (.iastore, 1) := by decide +kernel
theorem dX8_init_1279 : decode cX8_init 1279 = .ok (.dup, 1) := by decide +kernel
theorem dX8_init_1280 : decode cX8_init 1280 = .ok (.iconst 3, 1) := by decide +kernel
theorem dX8_init_1281 : decode cX8_init 1281 = .ok (.sipush 4114, 3) := by decide +kernel
theorem dX8_init_1284 : decode cX8_init 1284 = .ok (.iastore, 1) := by decide +kernel
theorem dX8_init_1285 : decode cX8_init 1285 = .ok (.dup, 1) := by decide +kernel
theorem dX8_init_1286 : decode cX8_init 1286 = .ok (.iconst 4, 1) := by decide +kernel
theorem dX8_init_1287 : decode cX8_init 1287 = .ok (.sipush 4115, 3) := by decide +kernel
theorem dX8_init_1290 : decode cX8_init 1290 = .ok (.iastore, 1) := by decide +kernel
theorem dX8_init_1291 : decode cX8_init 1291 = .ok (.dup, 1) := by decide +kernel
theorem dX8_init_1292 : decode cX8_init 1292 = .ok (.iconst 5, 1) := by decide +kernel
theorem dX8_init_1293 : decode cX8_init 1293 = .ok (.sipush 4116, 3) := by decide +kernel
theorem dX8_init_1296 : decode cX8_init 1296 = .ok (.iastore, 1) := by decide +kernel
theorem dX8_init_1297 : decode cX8_init 1297 = .ok (.dup, 1) := by decide +kernel
theorem dX8_init_1298 : decode cX8_init 1298 = .ok (.bipush 6, 2) := by decide +kernel
theorem dX8_init_1300 : decode cX8_init 1300 = .ok (.sipush 4117, 3) := by decide +kernel
theorem dX8_init_1303 : decode cX8_init 1303 = .ok (.iastore, 1) := by decide +kernel
theorem dX8_init_1304 : decode cX8_init 1304 = .ok (.dup, 1) := by decide +kernel
theorem dX8_init_1305 : decode cX8_init 1305 = .ok (.bipush 7, 2) := by decide +kernel
theorem dX8_init_1307 : decode cX8_init 1307 = .ok (.sipush 4118, 3) := by decide +kernel
theorem dX8_init_1310 : decode cX8_init 1310 = .ok (.iastore, 1) := by decide +kernel
theorem dX8_init_1311 : decode cX8_init 1311 = .ok (.dup, 1) := by decide +kernel
theorem dX8_init_1312 : decode cX8_init 1312 = .ok (.bipush 8, 2) := by decide +kernel
theorem dX8_init_1314 : decode cX8_init 1314 = .ok (.sipush 4119, 3) := by decide +kernel
theorem dX8_init_1317 : decode cX8_init 1317 = .ok (.iastore, 1) := by decide +kernel
theorem dX8_init_1318 : decode cX8_init 1318 = .ok (.dup, 1) := by decide +kernel
theorem dX8_init_1319 : decode cX8_init 1319 = .ok (.bipush 9, 2) := by decide +kernel
theorem dX8_init_1321 : decode cX8_init 1321 = .ok (.sipush 4124, 3) := by decide +kernel
theorem dX8_init_1324 : decode cX8_init 1324 = .ok (.iastore, 1) := by decide +kernel
theorem dX8_init_1325 : decode cX8_init 1325 = .ok (.dup, 1) := by decide +kernel
theorem dX8_init_1326 : decode cX8_init 1326 = .ok (.bipush 10, 2) := by decide +kernel
theorem dX8_init_1328 : decode cX8_init 1328 = .ok (.sipush 4125, 3) := by decide +kernel
theorem dX8_init_1331 : decode cX8_init 1331 = .ok (.iastore, 1) := by decide +kernel
theorem dX8_init_1332 : decode cX8_init 1332 = .ok (.dup, 1) := by decide +kernel
theorem dX8_init_1333 : decode cX8_init 1333 = .ok (.bipush 11, 2) := by decide +kernel
theorem dX8_init_1335 : decode cX8_init 1335 = .ok (.sipush 4126, 3) := by decide +kernel
theorem dX8_init_1338 : decode cX8_init 1338 = .ok (.iastore, 1) := by decide +kernel
theorem dX8_init_1339 : decode cX8_init 1339 = .ok (.dup, 1) := by decide +kernel
theorem dX8_init_1340 : decode cX8_init 1340 = .ok (.bipush 12, 2) := by decide +kernel
theorem dX8_init_1342 : decode cX8_init 1342 = .ok (.sipush 4127, 3) := by decide +kernel
theorem dX8_init_1345 : decode cX8_init 1345 = .ok (.iastore, 1) := by decide +kernel
theorem dX8_init_1346 : decode cX8_init 1346 = .ok (.putfield 22, 3) := by decide +kernel
theorem dX8_init_1349 : decode cX8_init 1349 = .ok (.aload_n 0, 1) := by decide +kernel
theorem dX8_init_1350 : decode cX8_init 1350 = .ok (.sipush 16384, 3) := by decide +kernel
theorem dX8_init_1353 : decode cX8_init 1353 = .ok (.newarray .int, 2) := by decide +kernel
theorem dX8_init_1355 : decode cX8_init 1355 = .ok (.putfield 25, 3) := by decide +kernel
theorem dX8_init_1358 : decode cX8_init 1358 = .ok (.aload_n 0, 1) := by decide +kernel
theorem dX8_init_1359 : decode cX8_init 1359 = .ok (.sipush 16384, 3) := by decide +kernel
theorem dX8_init_1362 : decode cX8_init 1362 = .ok (.newarray .int, 2) := by decide +kernel
theorem dX8_init_1364 : decode cX8_init 1364 = .ok (.putfield 28, 3) := by decide +kernel
theorem dX8_init_1367 : decode cX8_init 1367 = .ok (.aload_n 0, 1) := by decide +kernel
theorem dX8_init_1368 : decode cX8_init 1368 = .ok (.sipush 3000, 3) := by decide +kernel
theorem dX8_init_1371 : decode cX8_init 1371 = .ok (.newarray .boolean, 2) := by decide +kernel
theorem dX8_init_1373 : decode cX8_init 1373 = .ok (.putfield 31, 3) := by decide +kernel
theorem dX8_init_1376 : decode cX8_init 1376 = .ok (.aload_n 0, 1) := by decide +kernel
theorem dX8_init_1377 : decode cX8_init 1377 = .ok (.ldc 35, 2) := by decide +kernel
theorem dX8_init_1379 : decode cX8_init 1379 = .ok (.newarray .boolean, 2) := by decide +kernel
theorem dX8_init_1381 : decode cX8_init 1381 = .ok (.putfield 36, 3) := by decide +kernel
theorem dX8_init_1384 : decode cX8_init 1384 = .ok (.aload_n 0, 1) := by decide +kernel
theorem dX8_init_1385 : decode cX8_init 1385 = .ok (.ldc 35, 2) := by decide +kernel
theorem dX8_init_1387 : decode cX8_init 1387 = .ok (.newarray .int, 2) := by decide +kernel
theorem dX8_init_1389 : decode cX8_init 1389 = .ok (.putfield 39, 3) := by decide +kernel
theorem dX8_init_1392 : decode cX8_init 1392 = .ok (.aload_n 0, 1) := by decide +kernel
theorem dX8_init_1393 : decode cX8_init 1393 = .ok (.sipush 2000, 3) := by decide +kernel
theorem dX8_init_1396 : decode cX8_init 1396 = .ok (.newarray .int, 2) := by decide +kernel
theorem dX8_init_1398 : decode cX8_init 1398 = .ok (.putfield 42, 3) := by decide +kernel
theorem dX8_init_1401 : decode cX8_init 1401 = .ok (.aload_n 0, 1) := by decide +kernel
theorem dX8_init_1402 : decode cX8_init 1402 = .ok (.ldc 45, 2) := by decide +kernel
theorem dX8_init_1404 : decode cX8_init 1404 = .ok (.newarray .boolean, 2) := by decide +kernel
theorem dX8_init_1406 : decode cX8_init 1406 = .ok (.putfield 46, 3) := by decide +kernel
theorem dX8_init_1409 : decode cX8_init 1409 = .ok (.aload_n 0, 1) := by decide +kernel
theorem dX8_init_1410 : decode cX8_init 1410 = .ok (.bipush 25, 2) := by decide +kernel
theorem dX8_init_1412 : decode cX8_init 1412 = .ok (.newarray .boolean, 2) := by decide +kernel
theorem dX8_init_1414 : decode cX8_init 1414 = .ok (.putfield 49, 3) := by decide +kernel
theorem dX8_init_1417 : decode cX8_init 1417 = .ok (.aload_n 0, 1) := by decide +kernel
theorem dX8_init_1418 : decode cX8_init 1418 = .ok (.ldc 52, 2) := by decide +kernel
theorem dX8_init_1420 : decode cX8_init 1420 = .ok (.newarray .int, 2) := by decide +kernel
theorem dX8_init_1422 : decode cX8_init 1422 = .ok (.putfield 53, 3) := by decide +kernel
theorem dX8_init_1425 : decode cX8_init 1425 = .ok (.aload_n 0, 1) := by decide +kernel
theorem dX8_init_1426 : decode cX8_init 1426 = .ok (.bipush 25, 2) := by decide +kernel
theorem dX8_init_1428 : decode cX8_init 1428 = .ok (.newarray .int, 2) := by decide +kernel
theorem dX8_init_1430 : decode cX8_init 1430 = .ok (.putfield 56, 3) := by decide +kernel
theorem dX8_init_1433 : decode cX8_init 1433 = .ok (.aload_n 0, 1) := by decide +kernel
theorem dX8_init_1434 : decode cX8_init 1434 = .ok (.iload_n 1, 1) := by decide +kernel
theorem dX8_init_1435 : decode cX8_init 1435 = .ok (.ifCond .ge 7, 3) := by decide +kernel
theorem dX8_init_1438 : decode cX8_init 1438 = .ok (.iconst 0, 1) := by decide +kernel
theorem dX8_init_1439 : decode cX8_init 1439 = .ok (.goto 13, 3) := by decide +kernel
theorem dX8_init_1442 : decode cX8_init 1442 = .ok (.iload_n 1, 1) := by decide +kernel
theorem dX8_init_1443 : decode cX8_init 1443 = .ok (.iconst 2, 1) := by decide +kernel
theorem dX8_init_1444 : decode cX8_init 1444 = .ok (.if_icmp .le 7, 3) := by decide +kernel
theorem dX8_init_1447 : decode cX8_init 1447 = .ok (.iconst 2, 1) := by decide +kernel
theorem dX8_init_1448 : decode cX8_init 1448 = .ok (.goto 4, 3) := by decide +kernel
theorem dX8_init_1451 : decode cX8_init 1451 = .ok (.iload_n 1, 1) := by decide +kernel
theorem dX8_init_1452 : decode cX8_init 1452 = .ok (.putfield 59, 3) := by decide +kernel
theorem dX8_init_1455 : decode cX8_init 1455 = .ok (.aload_n 0, 1) := by decide +kernel
theorem dX8_init_1456 : decode cX8_init 1456 = .ok (.iload_n 2, 1) := by decide +kernel
theorem dX8_init_1457 : decode cX8_init 1457 = .ok (.iconst 1, 1) := by decide +kernel
theorem dX8_init_1458 : decode cX8_init 1458 = .ok (.if_icmp .ge 7, 3) := by decide +kernel
theorem dX8_init_1461 : decode cX8_init 1461 = .ok (.iconst 1, 1) := by decide +kernel
theorem dX8_init_1462 : decode cX8_init 1462 = .ok (.goto 17, 3) := by decide +kernel
theorem dX8_init_1465 : decode cX8_init 1465 = .ok (.iload_n 2, 1) := by decide +kernel
theorem dX8_init_1466 : decode cX8_init 1466 = .ok (.sipush 3000, 3) := by decide +kernel
theorem dX8_init_1469 : decode cX8_init 1469 = .ok (.if_icmp .le 9, 3) := by decide +kernel
theorem dX8_init_1472 : decode cX8_init 1472 = .ok (.sipush 3000, 3) := by decide +kernel
theorem dX8_init_1475 : decode cX8_init 1475 = .ok (.goto 4, 3) := by decide +kernel
theorem dX8_init_1478 : decode cX8_init 1478 = .ok (.iload_n 2, 1) := by decide +kernel
theorem dX8_init_1479 : decode cX8_init 1479 = .ok (.putfield 63, 3) := by decide +kernel
theorem dX8_init_1482 : decode cX8_init 1482 = .ok (.iconst 0, 1) := by decide +kernel
theorem dX8_init_1483 : decode cX8_init 1483 = .ok (.istore_n 3, 1) := by decide +kernel
theorem dX8_init_1484 : decode cX8_init 1484 = .ok (.iload_n 3, 1) := by decide +kernel
theorem dX8_init_1485 : decode cX8_init 1485 = .ok (.bipush 64, 2) := by decide +kernel
theorem dX8_init_1487 : decode cX8_init 1487 = .ok (.if_icmp .ge 37, 3) := by decide +kernel
theorem dX8_init_1490 : decode cX8_init 1490 = .ok (.aload_n 0, 1) := by decide +kernel
theorem dX8_init_1491 : decode cX8_init 1491 = .ok (.getfield 25, 3) := by decide +kernel
theorem dX8_init_1494 : decode cX8_init 1494 = .ok (.aload_n 0, 1) := by decide +kernel
theorem dX8_init_1495 : decode cX8_init 1495 = .ok (.getfield 7, 3) := by decide +kernel
theorem dX8_init_1498 : decode cX8_init 1498 = .ok (.iload_n 3, 1) := by decide +kernel
theorem dX8_init_1499 : decode cX8_init 1499 = .ok (.iaload, 1) := by decide +kernel
theorem dX8_init_1500 : decode cX8_init 1500 = .ok (.iconst 1, 1) := by decide +kernel
theorem dX8_init_1501 : decode cX8_init 1501 = .ok (.iload_n 3, 1) := by decide +kernel
theorem dX8_init_1502 : decode cX8_init 1502 = .ok (.iadd, 1) := by decide +kernel
theorem dX8_init_1503 : decode cX8_init 1503 = .ok (.iastore, 1) := by decide +kernel
theorem dX8_init_1504 : decode cX8_init 1504 = .ok (.aload_n 0, 1) := by decide +kernel
theorem dX8_init_1505 : decode cX8_init 1505 = .ok (.getfield 28, 3) := by decide +kernel
theorem dX8_init_1508 : decode cX8_init 1508 = .ok (.aload_n 0, 1) := by decide +kernel
theorem dX8_init_1509 : decode cX8_init 1509 = .ok (.getfield 13, 3) := by decide +kernel
theorem dX8_init_1512 : decode cX8_init 1512 = .ok (.iload_n 3, 1) := by decide +kernel
theorem dX8_init_1513 : decode cX8_init 1513 = .ok (.iaload, 1) := by decide +kernel
theorem dX8_init_1514 : decode cX8_init 1514 = .ok (.iconst 1, 1) := by decide +kernel
theorem dX8_init_1515 : decode cX8_init 1515 = .ok (.iload_n 3, 1) := by decide +kernel
theorem dX8_init_1516 : decode cX8_init 1516 = .ok (.iadd, 1) := by decide +kernel
theorem dX8_init_1517 : decode cX8_init 1517 = .ok (.iastore, 1) := by decide +kernel
theorem dX8_init_1518 : decode cX8_init 1518 = .ok (.iinc 3 1, 3) := by decide +kernel
theorem dX8_init_1521 : decode cX8_init 1521 = .ok (.goto (-37), 3) := by decide +kernel
theorem dX8_init_1524 : decode cX8_init 1524 = .ok (.iconst 0, 1) := by decide +kernel
theorem dX8_init_1525 : decode cX8_init 1525 = .ok (.istore_n 3, 1) := by decide +kernel
theorem dX8_init_1526 : decode cX8_init 1526 = .ok (.iload_n 3, 1) := by decide +kernel
theorem dX8_init_1527 : decode cX8_init 1527 = .ok (.bipush 27, 2) := by decide +kernel
theorem dX8_init_1529 : decode cX8_init 1529 = .ok (.if_icmp .ge 45, 3) := by decide +kernel
theorem dX8_init_1532 : decode cX8_init 1532 = .ok (.aload_n 0, 1) := by decide +kernel
theorem dX8_init_1533 : decode cX8_init 1533 = .ok (.getfield 25, 3) := by decide +kernel
theorem dX8_init_1536 : decode cX8_init 1536 = .ok (.aload_n 0, 1) := by decide +kernel
theorem dX8_init_1537 : decode cX8_init 1537 = .ok (.getfield 16, 3) := by decide +kernel
theorem dX8_init_1540 : decode cX8_init 1540 = .ok (.iload_n 3, 1) := by decide +kernel
theorem dX8_init_1541 : decode cX8_init 1541 = .ok (.iaload, 1) := by decide +kernel
theorem dX8_init_1542 : decode cX8_init 1542 = .ok (.bipush 65, 2) := by decide +kernel
theorem dX8_init_1544 : decode cX8_init 1544 = .ok (.bipush 64, 2) := by decide +kernel
theorem dX8_init_1546 : decode cX8_init 1546 = .ok (.iload_n 3, 1) := by decide +kernel
theorem dX8_init_1547 : decode cX8_init 1547 = .ok (.imul, 1) := by decide +kernel
theorem dX8_init_1548 : decode cX8_init 1548 = .ok (.iadd, 1) := by decide +kernel
theorem dX8_init_1549 : decode cX8_init 1549 = .ok (.iastore, 1) := by decide +kernel
theorem dX8_init_1550 : decode cX8_init 1550 = .ok (.aload_n 0, 1) := by decide +kernel
theorem dX8_init_1551 : decode cX8_init 1551 = .ok (.getfield 28, 3) := by decide +kernel
theorem dX8_init_1554 : decode cX8_init 1554 = .ok (.aload_n 0, 1) := by decide +kernel
theorem dX8_init_1555 : decode cX8_init 1555 = .ok (.getfield 19, 3) := by decide +kernel
theorem dX8_init_1558 : decode cX8_init 1558 = .ok (.iload_n 3, 1) := by decide +kernel
theorem dX8_init_1559 : decode cX8_init 1559 = .ok (.iaload, 1) := by decide +kernel
theorem dX8_init_1560 : decode cX8_init 1560 = .ok (.bipush 65, 2) := by decide +kernel
theorem dX8_init_1562 : decode cX8_init 1562 = .ok (.bipush 64, 2) := by decide +kernel
theorem dX8_init_1564 : decode cX8_init 1564 = .ok (.iload_n 3, 1) := by decide +kernel
theorem dX8_init_1565 : decode cX8_init 1565 = .ok (.imul, 1) := by decide +kernel
theorem dX8_init_1566 : decode cX8_init 1566 = .ok (.iadd, 1) := by decide +kernel
theorem dX8_init_1567 : decode cX8_init 1567 = .ok (.iastore, 1) := by decide +kernel
theorem dX8_init_1568 : decode cX8_init 1568 = .ok (.iinc 3 1, 3) := by decide +kernel
theorem dX8_init_1571 : decode cX8_init 1571 = .ok (.goto (-45), 3) := by decide +kernel
theorem dX8_init_1574 : decode cX8_init 1574 = .ok (.iconst 0, 1) := by decide +kernel
theorem dX8_init_1575 : decode cX8_init 1575 = .ok (.istore_n 3, 1) := by decide +kernel
theorem dX8_init_1576 : decode cX8_init 1576 = .ok (.iload_n 3, 1) := by decide +kernel
theorem dX8_init_1577 : decode cX8_init 1577 = .ok (.bipush 13, 2) := by decide +kernel
theorem dX8_init_1579 : decode cX8_init 1579 = .ok (.if_icmp .ge 47, 3) := by decide +kernel
theorem dX8_init_1582 : decode cX8_init 1582 = .ok (.aload_n 0, 1) := by decide +kernel
theorem dX8_init_1583 : decode cX8_init 1583 = .ok (.getfield 25, 3) := by decide +kernel
theorem dX8_init_1586 : decode cX8_init 1586 = .ok (.aload_n 0, 1) := by decide +kernel
theorem dX8_init_1587 : decode cX8_init 1587 = .ok (.getfield 22, 3) := by decide +kernel
theorem dX8_init_1590 : decode cX8_init 1590 = .ok (.iload_n 3, 1) := by decide +kernel
theorem dX8_init_1591 : decode cX8_init 1591 = .ok (.iaload, 1) := by decide +kernel
theorem dX8_init_1592 : decode cX8_init 1592 = .ok (.sipush 1793, 3) := by decide +kernel
theorem dX8_init_1595 : decode cX8_init 1595 = .ok (.bipush 64, 2) := by decide +kernel
theorem dX8_init_1597 : decode cX8_init 1597 = .ok (.iload_n 3, 1) := by decide +kernel
theorem dX8_init_1598 : decode cX8_init 1598 = .ok (.imul, 1) := by decide +kernel
theorem dX8_init_1599 : decode cX8_init 1599 = .ok (.iadd, 1) := by decide +kernel
theorem dX8_init_1600 : decode cX8_init 1600 = .ok (.iastore, 1) := by decide +kernel
theorem dX8_init_1601 : decode cX8_init 1601 = .ok (.aload_n 0, 1) := by decide +kernel
theorem dX8_init_1602 : decode cX8_init 1602 = .ok (.getfield 28, 3) := by decide +kernel
theorem dX8_init_1605 : decode cX8_init 1605 = .ok (.aload_n 0, 1) := by decide +kernel
theorem dX8_init_1606 : decode cX8_init 1606 = .ok (.getfield 22, 3) := by decide +kernel
theorem dX8_init_1609 : decode cX8_init 1609 = .ok (.iload_n 3, 1) := by decide +kernel
theorem dX8_init_1610 : decode cX8_init 1610 = .ok (.iaload, 1) := by decide +kernel
theorem dX8_init_1611 : decode cX8_init 1611 = .ok (.sipush 1793, 3) := by decide +kernel
theorem dX8_init_1614 : decode cX8_init 1614 = .ok (.bipush 64, 2) := by decide +kernel
theorem dX8_init_1616 : decode cX8_init 1616 = .ok (.iload_n 3, 1) := by decide +kernel
theorem dX8_init_1617 : decode cX8_init 1617 = .ok (.imul, 1) := by decide +kernel
theorem dX8_init_1618 : decode cX8_init 1618 = .ok (.iadd, 1) := by decide +kernel
theorem dX8_init_1619 : decode cX8_init 1619 = .ok (.iastore, 1) := by decide +kernel
theorem dX8_init_1620 : decode cX8_init 1620 = .ok (.iinc 3 1, 3) := by decide +kernel
theorem dX8_init_1623 : decode cX8_init 1623 = .ok (.goto (-47), 3) := by decide +kernel
theorem dX8_init_1626 : decode cX8_init 1626 = .ok (.return_, 1) := by decide +kernel
abbrev po_c_X8_init (g : GG) (h0 : Nat) (kk : Int) (ww : Int) : Option Value → va_W → Prop := fun v8 w8 => ∃ kz : Int, ∃ wz : Int, ∃ xa : Nat, ∃ xb : Nat, ∃ xc : Nat, ∃ xd : Nat, ∃ xe : Nat, ∃ xf : Nat, ∃ xg : Nat, ∃ xm : Nat, ∃ xv : Nat, ∃ xw : Nat, ∃ xq : Nat, ∃ xr : Nat, ∃ xh : Nat, ∃ xo : Nat, ∃ xp : Nat, ∃ f5 : Nat → Int32, ∃ f6 : Nat → Int32, v8 = none ∧ w8 = [(h0, ob 8 [.ref xa, .ref xb, .ref xc, .ref xd, .ref xe, .ref xf, .ref xg, .int (iI 0), .int (iI kz), .int (iI wz), .ref xm, .ref xv, .int (iI 0), .ref xw, .int (iI 0), .int (iI 0), .ref xq, .int (iI 0), .int (iI 0), .int (iI 0), .int (iI 0), .ref xr, .ref xh, .ref xo, .ref xp, .int (iI 0), .int (iI 0), .int (iI 0), .int (iI 0), .int (iI 0), .int (iI 0)]), (xa, aI g 64 (lfT mW 64)), (xb, aI g 64 (lfT mB 64)), (xc, aI g 27 (lfT mWM 27)), (xd, aI g 27 (lfT mBM 27)), (xe, aI g 13 (lfT mBO 13)), (xf, aI g 16384 f5), (xg, aI g 16384 f6), (xm, aZ g 3000 (fun _ => 0)), (xv, aZ g 72000 (fun _ => 0)), (xw, aI g 72000 (fun _ => 0)), (xq, aI g 2000 (fun _ => 0)), (xr, aZ g 75000 (fun _ => 0)), (xh, aZ g 25 (fun _ => 0)), (xo, aI g 75100 (fun _ => 0)), (xp, aI g 25 (fun _ => 0))] ∧ ((kk < 0 ∧ kz = 0) ∨ (0 ≤ kk ∧ kk ≤ 2 ∧ kz = kk) ∨ (2 < kk ∧ kz = 2)) ∧ ((ww < 1 ∧ wz = 1) ∨ (1 ≤ ww ∧ ww ≤ 3000 ∧ wz = ww) ∨ (3000 < ww ∧ wz = 3000)) ∧ (rR f5) ∧ (rR f6)
set_option maxHeartbeats 4000000 in
set_option maxRecDepth 100000 in
/-- a new reference -/
theorem c_X8_init (l : Launch) (g : GG) (h0 : Nat) (kk : Int) (ww : Int) (hp0 : -2147483648 ≤ kk ∧ kk < 2147483648) (hp1 : -2147483648 ≤ ww ∧ ww < 2147483648) : Ct l g yX8_init (wM yX8_init cX8_init 4 none) (rmD 1 15 400000) [.ref h0, .int (iI kk), .int (iI ww)] [(h0, ob 8 [.null, .null, .null, .null, .null, .null, .null, .int (iI 0), .int (iI 0), .int (iI 0), .null, .null, .int (iI 0), .null, .int (iI 0), .int (iI 0), .null, .int (iI 0), .int (iI 0), .int (iI 0), .int (iI 0), .null, .null, .null, .null, .int (iI 0), .int (iI 0), .int (iI 0), .int (iI 0), .int (iI 0), .int (iI 0)])] (po_c_X8_init g h0 kk ww) := by
  refine Ct_of (by decide +kernel) (Nat.le_of_ble_eq_true rfl) ?_
  intro p9 e9 s9 m9 ag9 bl9 mt9 c9 A9 fx hr hnm
  refine v_aload_n fx 0 dX8_init_0 rfl rfl ?_
  refine v_objInit fx (nl rfl) k992 k77 k78 dX8_init_1 (nl rfl) (nl rfl) rfl ?_
  refine v_aload_n fx 0 dX8_init_4 rfl rfl ?_
  refine v_bipush fx dX8_init_5 (by decide +kernel) rfl ?_
  refine v_newa fx 0 .int 64 (64, .inl (fun _ => 0)) 1 64 k98 dX8_init_7 rfl rfl rfl (by omega) rfl (fun cA => arr0_int cA _) (by decide) (nl rfl) (nl rfl) rfl rfl rfl (fun q_1 => ?_)
  refine v_is (wn := [(h0, ob 8 [.null, .null, .null, .null, .null, .null, .null, .int (iI 0), .int (iI 0), .int (iI 0), .null, .null, .int (iI 0), .null, .int (iI 0), .int (iI 0), .null, .int (iI 0), .int (iI 0), .int (iI 0), .int (iI 0), .null, .null, .null, .null, .int (iI 0), .int (iI 0), .int (iI 0), .int (iI 0), .int (iI 0), .int (iI 0)]), (q_1, aI g 64 (fun _ => 0))]) (cn := 1) (sn := 64) (sn2 := [.ref q_1, .ref h0]) rfl rfl rfl rfl ?_
  refine v_dup fx dX8_init_9 rfl rfl ?_
  refine v_iconst fx dX8_init_10 rfl ?_
  refine v_sipush fx dX8_init_11 (by decide +kernel) rfl ?_
  refine v_iast fx 1 (lfT mW 1) [(h0, ob 8 [.null, .null, .null, .null, .null, .null, .null, .int (iI 0), .int (iI 0), .int (iI 0), .null, .null, .int (iI 0), .null, .int (iI 0), .int (iI 0), .null, .int (iI 0), .int (iI 0), .int (iI 0), .int (iI 0), .null, .null, .null, .null, .int (iI 0), .int (iI 0), .int (iI 0), .int (iI 0), .int (iI 0), .int (iI 0)]), (q_1, aI g 64 (lfT mW 1))] dX8_init_14 rfl (by omega) (by omega) (lfT_first rfl) rfl rfl ?_
  refine v_dup fx dX8_init_15 rfl rfl ?_
  refine v_iconst fx dX8_init_16 rfl ?_
  refine v_bipush fx dX8_init_17 (by decide +kernel) rfl ?_
  refine v_iast fx 1 (lfT mW 2) [(h0, ob 8 [.null, .null, .null, .null, .null, .null, .null, .int (iI 0), .int (iI 0), .int (iI 0), .null, .null, .int (iI 0), .null, .int (iI 0), .int (iI 0), .null, .int (iI 0), .int (iI 0), .int (iI 0), .int (iI 0), .null, .null, .null, .null, .int (iI 0), .int (iI 0), .int (iI 0), .int (iI 0), .int (iI 0), .int (iI 0)]), (q_1, aI g 64 (lfT mW 2))] dX8_init_19 rfl (by omega) (by omega) (lfT_step (k := 1) rfl) rfl rfl ?_
  refine v_dup fx dX8_init_20 rfl rfl ?_
  refine v_iconst fx dX8_init_21 rfl ?_
  refine v_bipush fx dX8_init_22 (by decide +kernel) rfl ?_
  refine v_iast fx 1 (lfT mW 3) [(h0, ob 8 [.null, .null, .null, .null, .null, .null, .null, .int (iI 0), .int (iI 0), .int (iI 0), .null, .null, .int (iI 0), .null, .int (iI 0), .int (iI 0), .null, .int (iI 0), .int (iI 0), .int (iI 0), .int (iI 0), .null, .null, .null, .null, .int (iI 0), .int (iI 0), .int (iI 0), .int (iI 0), .int (iI 0), .int (iI 0)]), (q_1, aI g 64 (lfT mW 3))] dX8_init_24 rfl (by omega) (by omega) (lfT_step (k := 2) rfl) rfl rfl ?_
  refine v_dup fx dX8_init_25 rfl rfl ?_
  refine v_iconst fx dX8_init_26 rfl ?_
  refine v_bipush fx dX8_init_27 (by decide +kernel) rfl ?_
  refine v_iast fx 1 (lfT mW 4) [(h0, ob 8 [.null, .null, .null, .null, .null, .null, .null, .int (iI 0), .int (iI 0), .int (iI 0), .null, .null, .int (iI 0), .null, .int (iI 0), .int (iI 0), .null, .int (iI 0), .int (iI 0), .int (iI 0), .int (iI 0), .null, .null, .null, .null, .int (iI 0), .int (iI 0), .int (iI 0), .int (iI 0), .int (iI 0), .int (iI 0)]), (q_1, aI g 64 (lfT mW 4))] dX8_init_29 rfl (by omega) (by omega) (lfT_step (k := 3) rfl) rfl rfl ?_
  refine v_dup fx dX8_init_30 rfl rfl ?_
  refine v_iconst fx dX8_init_31 rfl ?_
  refine v_bipush fx dX8_init_32 (by decide +kernel) rfl ?_
  refine v_iast fx 1 (lfT mW 5) [(h0, ob 8 [.null, .null, .null, .null, .null, .null, .null, .int (iI 0), .int (iI 0), .int (iI 0), .null, .null, .int (iI 0), .null, .int (iI 0), .int (iI 0), .null, .int (iI 0), .int (iI 0), .int (iI 0), .int (iI 0), .null, .null, .null, .null, .int (iI 0), .int (iI 0), .int (iI 0), .int (iI 0), .int (iI 0), .int (iI 0)]), (q_1, aI g 64 (lfT mW 5))] dX8_init_34 rfl (by omega) (by omega) (lfT_step (k := 4) rfl) rfl rfl ?_
  refine v_dup fx dX8_init_35 rfl rfl ?_
  refine v_iconst fx dX8_init_36 rfl ?_
  refine v_bipush fx dX8_init_37 (by decide +kernel) rfl ?_
  refine v_iast fx 1 (lfT mW 6) [(h0, ob 8 [.null, .null, .null, .null, .null, .null, .null, .int (iI 0), .int (iI 0), .int (iI 0), .null, .null, .int (iI 0), .null, .int (iI 0), .int (iI 0), .null, .int (iI 0), .int (iI 0), .int (iI 0), .int (iI 0), .null, .null, .null, .null, .int (iI 0), .int (iI 0), .int (iI 0), .int (iI 0), .int (iI 0), .int (iI 0)]), (q_1, aI g 64 (lfT mW 6))] dX8_init_39 rfl (by omega) (by omega) (lfT_step (k := 5) rfl) rfl rfl ?_
  refine v_dup fx dX8_init_40 rfl rfl ?_
  refine v_bipush fx dX8_init_41 (by decide +kernel) rfl ?_
  refine v_bipush fx dX8_init_43 (by decide +kernel) rfl ?_
  refine v_iast fx 1 (lfT mW 7) [(h0, ob 8 [.null, .null, .null, .null, .null, .null, .null, .int (iI 0), .int (iI 0), .int (iI 0), .null, .null, .int (iI 0), .null, .int (iI 0), .int (iI 0), .null, .int (iI 0), .int (iI 0), .int (iI 0), .int (iI 0), .null, .null, .null, .null, .int (iI 0), .int (iI 0), .int (iI 0), .int (iI 0), .int (iI 0), .int (iI 0)]), (q_1, aI g 64 (lfT mW 7))] dX8_init_45 rfl (by omega) (by omega) (lfT_step (k := 6) rfl) rfl rfl ?_
  refine v_dup fx dX8_init_46 rfl rfl ?_
  refine v_bipush fx dX8_init_47 (by decide +kernel) rfl ?_
  refine v_bipush fx dX8_init_49 (by decide +kernel) rfl ?_
  refine v_iast fx 1 (lfT mW 8) [(h0, ob 8 [.null, .null, .null, .null, .null, .null, .null, .int (iI 0), .int (iI 0), .int (iI 0), .null, .null, .int (iI 0), .null, .int (iI 0), .int (iI 0), .null, .int (iI 0), .int (iI 0), .int (iI 0), .int (iI 0), .null, .null, .null, .null, .int (iI 0), .int (iI 0), .int (iI 0), .int (iI 0), .int (iI 0), .int (iI 0)]), (q_1, aI g 64 (lfT mW 8))] dX8_init_51 rfl (by omega) (by omega) (lfT_step (k := 7) rfl) rfl rfl ?_
  refine v_dup fx dX8_init_52 rfl rfl ?_
  refine v_bipush fx dX8_init_53 (by decide +kernel) rfl ?_
  refine v_bipush fx dX8_init_55 (by decide +kernel) rfl ?_
  refine v_iast fx 1 (lfT mW 9) [(h0, ob 8 [.null, .null, .null, .null, .null, .null, .null, .int (iI 0), .int (iI 0), .int (iI 0), .null, .null, .int (iI 0), .null, .int (iI 0), .int (iI 0), .null, .int (iI 0), .int (iI 0), .int (iI 0), .int (iI 0), .null, .null, .null, .null, .int (iI 0), .int (iI 0), .int (iI 0), .int (iI 0), .int (iI 0), .int (iI 0)]), (q_1, aI g 64 (lfT mW 9))] dX8_init_57 rfl (by omega) (by omega) (lfT_step (k := 8) rfl) rfl rfl ?_
  refine v_dup fx dX8_init_58 rfl rfl ?_
  refine v_bipush fx dX8_init_59 (by decide +kernel) rfl ?_
  refine v_bipush fx dX8_init_61 (by decide +kernel) rfl ?_
  refine v_iast fx 1 (lfT mW 10) [(h0, ob 8 [.null, .null, .null, .null, .null, .null, .null, .int (iI 0), .int (iI 0), .int (iI 0), .null, .null, .int (iI 0), .null, .int (iI 0), .int (iI 0), .null, .int (iI 0), .int (iI 0), .int (iI 0), .int (iI 0), .null, .null, .null, .null, .int (iI 0), .int (iI 0), .int (iI 0), .int (iI 0), .int (iI 0), .int (iI 0)]), (q_1, aI g 64 (lfT mW 10))] dX8_init_63 rfl (by omega) (by omega) (lfT_step (k := 9) rfl) rfl rfl ?_
  refine v_dup fx dX8_init_64 rfl rfl ?_
  refine v_bipush fx dX8_init_65 (by decide +kernel) rfl ?_
  refine v_bipush fx dX8_init_67 (by decide +kernel) rfl ?_
  refine v_iast fx 1 (lfT mW 11) [(h0, ob 8 [.null, .null, .null, .null, .null, .null, .null, .int (iI 0), .int (iI 0), .int (iI 0), .null, .null, .int (iI 0), .null, .int (iI 0), .int (iI 0), .null, .int (iI 0), .int (iI 0), .int (iI 0), .int (iI 0), .null, .null, .null, .null, .int (iI 0), .int (iI 0), .int (iI 0), .int (iI 0), .int (iI 0), .int (iI 0)]), (q_1, aI g 64 (lfT mW 11))] dX8_init_69 rfl (by omega) (by omega) (lfT_step (k := 10) rfl) rfl rfl ?_
  refine v_dup fx dX8_init_70 rfl rfl ?_
  refine v_bipush fx dX8_init_71 (by decide +kernel) rfl ?_
  refine v_bipush fx dX8_init_73 (by decide +kernel) rfl ?_
  refine v_iast fx 1 (lfT mW 12) [(h0, ob 8 [.null, .null, .null, .null, .null, .null, .null, .int (iI 0), .int (iI 0), .int (iI 0), .null, .null, .int (iI 0), .null, .int (iI 0), .int (iI 0), .null, .int (iI 0), .int (iI 0), .int (iI 0), .int (iI 0), .null, .null, .null, .null, .int (iI 0), .int (iI 0), .int (iI 0), .int (iI 0), .int (iI 0), .int (iI 0)]), (q_1, aI g 64 (lfT mW 12))] dX8_init_75 rfl (by omega) (by omega) (lfT_step (k := 11) rfl) rfl rfl ?_
  refine v_dup fx dX8_init_76 rfl rfl ?_
  refine v_bipush fx dX8_init_77 (by decide +kernel) rfl ?_
  refine v_bipush fx dX8_init_79 (by decide +kernel) rfl ?_
  refine v_iast fx 1 (lfT mW 13) [(h0, ob 8 [.null, .null, .null, .null, .null, .null, .null, .int (iI 0), .int (iI 0), .int (iI 0), .null, .null, .int (iI 0), .null, .int (iI 0), .int (iI 0), .null, .int (iI 0), .int (iI 0), .int (iI 0), .int (iI 0), .null, .null, .null, .null, .int (iI 0), .int (iI 0), .int (iI 0), .int (iI 0), .int (iI 0), .int (iI 0)]), (q_1, aI g 64 (lfT mW 13))] dX8_init_81 rfl (by omega) (by omega) (lfT_step (k := 12) rfl) rfl rfl ?_
  refine v_dup fx dX8_init_82 rfl rfl ?_
  refine v_bipush fx dX8_init_83 (by decide +kernel) rfl ?_
  refine v_bipush fx dX8_init_85 (by decide +kernel) rfl ?_
  refine v_iast fx 1 (lfT mW 14) [(h0, ob 8 [.null, .null, .null, .null, .null, .null, .null, .int (iI 0), .int (iI 0), .int (iI 0), .null, .null, .int (iI 0), .null, .int (iI 0), .int (iI 0), .null, .int (iI 0), .int (iI 0), .int (iI 0), .int (iI 0), .null, .null, .null, .null, .int (iI 0), .int (iI 0), .int (iI 0), .int (iI 0), .int (iI 0), .int (iI 0)]), (q_1, aI g 64 (lfT mW 14))] dX8_init_87 rfl (by omega) (by omega) (lfT_step (k := 13) rfl) rfl rfl ?_
  refine v_dup fx dX8_init_88 rfl rfl ?_
  refine v_bipush fx dX8_init_89 (by decide +kernel) rfl ?_
  refine v_bipush fx dX8_init_91 (by decide +kernel) rfl ?_
  refine v_iast fx 1 (lfT mW 15) [(h0, ob 8 [.null, .null, .null, .null, .null, .null, .null, .int (iI 0), .int (iI 0), .int (iI 0), .null, .null, .int (iI 0), .null, .int (iI 0), .int (iI 0), .null, .int (iI 0), .int (iI 0), .int (iI 0), .int (iI 0), .null, .null, .null, .null, .int (iI 0), .int (iI 0), .int (iI 0), .int (iI 0), .int (iI 0), .int (iI 0)]), (q_1, aI g 64 (lfT mW 15))] dX8_init_93 rfl (by omega) (by omega) (lfT_step (k := 14) rfl) rfl rfl ?_
  refine v_dup fx dX8_init_94 rfl rfl ?_
  refine v_bipush fx dX8_init_95 (by decide +kernel) rfl ?_
  refine v_bipush fx dX8_init_97 (by decide +kernel) rfl ?_
  refine v_iast fx 1 (lfT mW 16) [(h0, ob 8 [.null, .null, .null, .null, .null, .null, .null, .int (iI 0), .int (iI 0), .int (iI 0), .null, .null, .int (iI 0), .null, .int (iI 0), .int (iI 0), .null, .int (iI 0), .int (iI 0), .int (iI 0), .int (iI 0), .null, .null, .null, .null, .int (iI 0), .int (iI 0), .int (iI 0), .int (iI 0), .int (iI 0), .int (iI 0)]), (q_1, aI g 64 (lfT mW 16))] dX8_init_99 rfl (by omega) (by omega) (lfT_step (k := 15) rfl) rfl rfl ?_
  refine v_dup fx dX8_init_100 rfl rfl ?_
  refine v_bipush fx dX8_init_101 (by decide +kernel) rfl ?_
  refine v_bipush fx dX8_init_103 (by decide +kernel) rfl ?_
  refine v_iast fx 1 (lfT mW 17) [(h0, ob 8 [.null, .null, .null, .null, .null, .null, .null, .int (iI 0), .int (iI 0), .int (iI 0), .null, .null, .int (iI 0), .null, .int (iI 0), .int (iI 0), .null, .int (iI 0), .int (iI 0), .int (iI 0), .int (iI 0), .null, .null, .null, .null, .int (iI 0), .int (iI 0), .int (iI 0), .int (iI 0), .int (iI 0), .int (iI 0)]), (q_1, aI g 64 (lfT mW 17))] dX8_init_105 rfl (by omega) (by omega) (lfT_step (k := 16) rfl) rfl rfl ?_
  refine v_dup fx dX8_init_106 rfl rfl ?_
  refine v_bipush fx dX8_init_107 (by decide +kernel) rfl ?_
  refine v_bipush fx dX8_init_109 (by decide +kernel) rfl ?_
  refine v_iast fx 1 (lfT mW 18) [(h0, ob 8 [.null, .null, .null, .null, .null, .null, .null, .int (iI 0), .int (iI 0), .int (iI 0), .null, .null, .int (iI 0), .null, .int (iI 0), .int (iI 0), .null, .int (iI 0), .int (iI 0), .int (iI 0), .int (iI 0), .null, .null, .null, .null, .int (iI 0), .int (iI 0), .int (iI 0), .int (iI 0), .int (iI 0), .int (iI 0)]), (q_1, aI g 64 (lfT mW 18))] dX8_init_111 rfl (by omega) (by omega) (lfT_step (k := 17) rfl) rfl rfl ?_
  refine v_dup fx dX8_init_112 rfl rfl ?_
  refine v_bipush fx dX8_init_113 (by decide +kernel) rfl ?_
  refine v_sipush fx dX8_init_115 (by decide +kernel) rfl ?_
  refine v_iast fx 1 (lfT mW 19) [(h0, ob 8 [.null, .null, .null, .null, .null, .null, .null, .int (iI 0), .int (iI 0), .int (iI 0), .null, .null, .int (iI 0), .null, .int (iI 0), .int (iI 0), .null, .int (iI 0), .int (iI 0), .int (iI 0), .int (iI 0), .null, .null, .null, .null, .int (iI 0), .int (iI 0), .int (iI 0), .int (iI 0), .int (iI 0), .int (iI 0)]), (q_1, aI g 64 (lfT mW 19))] dX8_init_118 rfl (by omega) (by omega) (lfT_step (k := 18) rfl) rfl rfl ?_
  refine v_dup fx dX8_init_119 rfl rfl ?_
  refine v_bipush fx dX8_init_120 (by decide +kernel) rfl ?_
  refine v_sipush fx dX8_init_122 (by decide +kernel) rfl ?_
  refine v_iast fx 1 (lfT mW 20) [(h0, ob 8 [.null, .null, .null, .null, .null, .null, .null, .int (iI 0), .int (iI 0), .int (iI 0), .null, .null, .int (iI 0), .null, .int (iI 0), .int (iI 0), .null, .int (iI 0), .int (iI 0), .int (iI 0), .int (iI 0), .null, .null, .null, .null, .int (iI 0), .int (iI 0), .int (iI 0), .int (iI 0), .int (iI 0), .int (iI 0)]), (q_1, aI g 64 (lfT mW 20))] dX8_init_125 rfl (by omega) (by omega) (lfT_step (k := 19) rfl) rfl rfl ?_
  refine v_dup fx dX8_init_126 rfl rfl ?_
  refine v_bipush fx dX8_init_127 (by decide +kernel) rfl ?_
  refine v_sipush fx dX8_init_129 (by decide +kernel) rfl ?_
  refine v_iast fx 1 (lfT mW 21) [(h0, ob 8 [.null, .null, .null, .null, .null, .null, .null, .int (iI 0), .int (iI 0), .int (iI 0), .null, .null, .int (iI 0), .null, .int (iI 0), .int (iI 0), .null, .int (iI 0), .int (iI 0), .int (iI 0), .int (iI 0), .null, .null, .null, .null, .int (iI 0), .int (iI 0), .int (iI 0), .int (iI 0), .int (iI 0), .int (iI 0)]), (q_1, aI g 64 (lfT mW 21))] dX8_init_132 rfl (by omega) (by omega) (lfT_step (k := 20) rfl) rfl rfl ?_
  refine v_dup fx dX8_init_133 rfl rfl ?_
  refine v_bipush fx dX8_init_134 (by decide +kernel) rfl ?_
  refine v_sipush fx dX8_init_136 (by decide +kernel) rfl ?_
  refine v_iast fx 1 (lfT mW 22) [(h0, ob 8 [.null, .null, .null, .null, .null, .null, .null, .int (iI 0), .int (iI 0), .int (iI 0), .null, .null, .int (iI 0), .null, .int (iI 0), .int (iI 0), .null, .int (iI 0), .int (iI 0), .int (iI 0), .int (iI 0), .null, .null, .null, .null, .int (iI 0), .int (iI 0), .int (iI 0), .int (iI 0), .int (iI 0), .int (iI 0)]), (q_1, aI g 64 (lfT mW 22))] dX8_init_139 rfl (by omega) (by omega) (lfT_step (k := 21) rfl) rfl rfl ?_
  refine v_dup fx dX8_init_140 rfl rfl ?_
  refine v_bipush fx dX8_init_141 (by decide +kernel) rfl ?_
  refine v_sipush fx dX8_init_143 (by decide +kernel) rfl ?_
  refine v_iast fx 1 (lfT mW 23) [(h0, ob 8 [.null, .null, .null, .null, .null, .null, .null, .int (iI 0), .int (iI 0), .int (iI 0), .null, .null, .int (iI 0), .null, .int (iI 0), .int (iI 0), .null, .int (iI 0), .int (iI 0), .int (iI 0), .int (iI 0), .null, .null, .null, .null, .int (iI 0), .int (iI 0), .int (iI 0), .int (iI 0), .int (iI 0), .int (iI 0)]), (q_1, aI g 64 (lfT mW 23))] dX8_init_146 rfl (by omega) (by omega) (lfT_step (k := 22) rfl) rfl rfl ?_
  refine v_dup fx dX8_init_147 rfl rfl ?_
  refine v_bipush fx dX8_init_148 (by decide +kernel) rfl ?_
  refine v_sipush fx dX8_init_150 (by decide +kernel) rfl ?_
  refine v_iast fx 1 (lfT mW 24) [(h0, ob 8 [.null, .null, .null, .null, .null, .null, .null, .int (iI 0), .int (iI 0), .int (iI 0), .null, .null, .int (iI 0), .null, .int (iI 0), .int (iI 0), .null, .int (iI 0), .int (iI 0), .int (iI 0), .int (iI 0), .null, .null, .null, .null, .int (iI 0), .int (iI 0), .int (iI 0), .int (iI 0), .int (iI 0), .int (iI 0)]), (q_1, aI g 64 (lfT mW 24))] dX8_init_153 rfl (by omega) (by omega) (lfT_step (k := 23) rfl) rfl rfl ?_
  refine v_dup fx dX8_init_154 rfl rfl ?_
  refine v_bipush fx dX8_init_155 (by decide +kernel) rfl ?_
  refine v_sipush fx dX8_init_157 (by decide +kernel) rfl ?_
  refine v_iast fx 1 (lfT mW 25) [(h0, ob 8 [.null, .null, .null, .null, .null, .null, .null, .int (iI 0), .int (iI 0), .int (iI 0), .null, .null, .int (iI 0), .null, .int (iI 0), .int (iI 0), .null, .int (iI 0), .int (iI 0), .int (iI 0), .int (iI 0), .null, .null, .null, .null, .int (iI 0), .int (iI 0), .int (iI 0), .int (iI 0), .int (iI 0), .int (iI 0)]), (q_1, aI g 64 (lfT mW 25))] dX8_init_160 rfl (by omega) (by omega) (lfT_step (k := 24) rfl) rfl rfl ?_
  refine v_dup fx dX8_init_161 rfl rfl ?_
  refine v_bipush fx dX8_init_162 (by decide +kernel) rfl ?_
  refine v_sipush fx dX8_init_164 (by decide +kernel) rfl ?_
  refine v_iast fx 1 (lfT mW 26) [(h0, ob 8 [.null, .null, .null, .null, .null, .null, .null, .int (iI 0), .int (iI 0), .int (iI 0), .null, .null, .int (iI 0), .null, .int (iI 0), .int (iI 0), .null, .int (iI 0), .int (iI 0), .int (iI 0), .int (iI 0), .null, .null, .null, .null, .int (iI 0), .int (iI 0), .int (iI 0), .int (iI 0), .int (iI 0), .int (iI 0)]), (q_1, aI g 64 (lfT mW 26))] dX8_init_167 rfl (by omega) (by omega) (lfT_step (k := 25) rfl) rfl rfl ?_
  refine v_dup fx dX8_init_168 rfl rfl ?_
  refine v_bipush fx dX8_init_169 (by decide +kernel) rfl ?_
  refine v_sipush fx dX8_init_171 (by decide +kernel) rfl ?_
  refine v_iast fx 1 (lfT mW 27) [(h0, ob 8 [.null, .null, .null, .null, .null, .null, .null, .int (iI 0), .int (iI 0), .int (iI 0), .null, .null, .int (iI 0), .null, .int (iI 0), .int (iI 0), .null, .int (iI 0), .int (iI 0), .int (iI 0), .int (iI 0), .null, .null, .null, .null, .int (iI 0), .int (iI 0), .int (iI 0), .int (iI 0), .int (iI 0), .int (iI 0)]), (q_1, aI g 64 (lfT mW 27))] dX8_init_174 rfl (by omega) (by omega) (lfT_step (k := 26) rfl) rfl rfl ?_
  refine v_dup fx dX8_init_175 rfl rfl ?_
  refine v_bipush fx dX8_init_176 (by decide +kernel) rfl ?_
  refine v_sipush fx dX8_init_178 (by decide +kernel) rfl ?_
  refine v_iast fx 1 (lfT mW 28) [(h0, ob 8 [.null, .null, .null, .null, .null, .null, .null, .int (iI 0), .int (iI 0), .int (iI 0), .null, .null, .int (iI 0), .null, .int (iI 0), .int (iI 0), .null, .int (iI 0), .int (iI 0), .int (iI 0), .int (iI 0), .null, .null, .null, .null, .int (iI 0), .int (iI 0), .int (iI 0), .int (iI 0), .int (iI 0), .int (iI 0)]), (q_1, aI g 64 (lfT mW 28))] dX8_init_181 rfl (by omega) (by omega) (lfT_step (k := 27) rfl) rfl rfl ?_
  refine v_dup fx dX8_init_182 rfl rfl ?_
  refine v_bipush fx dX8_init_183 (by decide +kernel) rfl ?_
  refine v_sipush fx dX8_init_185 (by decide +kernel) rfl ?_
  refine v_iast fx 1 (lfT mW 29) [(h0, ob 8 [.null, .null, .null, .null, .null, .null, .null, .int (iI 0), .int (iI 0), .int (iI 0), .null, .null, .int (iI 0), .null, .int (iI 0), .int (iI 0), .null, .int (iI 0), .int (iI 0), .int (iI 0), .int (iI 0), .null, .null, .null, .null, .int (iI 0), .int (iI 0), .int (iI 0), .int (iI 0), .int (iI 0), .int (iI 0)]), (q_1, aI g 64 (lfT mW 29))] dX8_init_188 rfl (by omega) (by omega) (lfT_step (k := 28) rfl) rfl rfl ?_
  refine v_dup fx dX8_init_189 rfl rfl ?_
  refine v_bipush fx dX8_init_190 (by decide +kernel) rfl ?_
  refine v_sipush fx dX8_init_192 (by decide +kernel) rfl ?_
  refine v_iast fx 1 (lfT mW 30) [(h0, ob 8 [.null, .null, .null, .null, .null, .null, .null, .int (iI 0), .int (iI 0), .int (iI 0), .null, .null, .int (iI 0), .null, .int (iI 0), .int (iI 0), .null, .int (iI 0), .int (iI 0), .int (iI 0), .int (iI 0), .null, .null, .null, .null, .int (iI 0), .int (iI 0), .int (iI 0), .int (iI 0), .int (iI 0), .int (iI 0)]), (q_1, aI g 64 (lfT mW 30))] dX8_init_195 rfl (by omega) (by omega) (lfT_step (k := 29) rfl) rfl rfl ?_
  refine v_dup fx dX8_init_196 rfl rfl ?_
  refine v_bipush fx dX8_init_197 (by decide +kernel) rfl ?_
  refine v_sipush fx dX8_init_199 (by decide +kernel) rfl ?_
  refine v_iast fx 1 (lfT mW 31) [(h0, ob 8 [.null, .null, .null, .null, .null, .null, .null, .int (iI 0), .int (iI 0), .int (iI 0), .null, .null, .int (iI 0), .null, .int (iI 0), .int (iI 0), .null, .int (iI 0), .int (iI 0), .int (iI 0), .int (iI 0), .null, .null, .null, .null, .int (iI 0), .int (iI 0), .int (iI 0), .int (iI 0), .int (iI 0), .int (iI 0)]), (q_1, aI g 64 (lfT mW 31))] dX8_init_202 rfl (by omega) (by omega) (lfT_step (k := 30) rfl) rfl rfl ?_
  refine v_dup fx dX8_init_203 rfl rfl ?_
  refine v_bipush fx dX8_init_204 (by decide +kernel) rfl ?_
  refine v_sipush fx dX8_init_206 (by decide +kernel) rfl ?_
  refine v_iast fx 1 (lfT mW 32) [(h0, ob 8 [.null, .null, .null, .null, .null, .null, .null, .int (iI 0), .int (iI 0), .int (iI 0), .null, .null, .int (iI 0), .null, .int (iI 0), .int (iI 0), .null, .int (iI 0), .int (iI 0), .int (iI 0), .int (iI 0), .null, .null, .null, .null, .int (iI 0), .int (iI 0), .int (iI 0), .int (iI 0), .int (iI 0), .int (iI 0)]), (q_1, aI g 64 (lfT mW 32))] dX8_init_209 rfl (by omega) (by omega) (lfT_step (k := 31) rfl) rfl rfl ?_
  refine v_dup fx dX8_init_210 rfl rfl ?_
  refine v_bipush fx dX8_init_211 (by decide +kernel) rfl ?_
  refine v_sipush fx dX8_init_213 (by decide +kernel) rfl ?_
  refine v_iast fx 1 (lfT mW 33) [(h0, ob 8 [.null, .null, .null, .null, .null, .null, .null, .int (iI 0), .int (iI 0), .int (iI 0), .null, .null, .int (iI 0), .null, .int (iI 0), .int (iI 0), .null, .int (iI 0), .int (iI 0), .int (iI 0), .int (iI 0), .null, .null, .null, .null, .int (iI 0), .int (iI 0), .int (iI 0), .int (iI 0), .int (iI 0), .int (iI 0)]), (q_1, aI g 64 (lfT mW 33))] dX8_init_216 rfl (by omega) (by omega) (lfT_step (k := 32) rfl) rfl rfl ?_
  refine v_dup fx dX8_init_217 rfl rfl ?_
  refine v_bipush fx dX8_init_218 (by decide +kernel) rfl ?_
  refine v_sipush fx dX8_init_220 (by decide +kernel) rfl ?_
  refine v_iast fx 1 (lfT mW 34) [(h0, ob 8 [.null, .null, .null, .null, .null, .null, .null, .int (iI 0), .int (iI 0), .int (iI 0), .null, .null, .int (iI 0), .null, .int (iI 0), .int (iI 0), .null, .int (iI 0), .int (iI 0), .int (iI 0), .int (iI 0), .null, .null, .null, .null, .int (iI 0), .int (iI 0), .int (iI 0), .int (iI 0), .int (iI 0), .int (iI 0)]), (q_1, aI g 64 (lfT mW 34))] dX8_init_223 rfl (by omega) (by omega) (lfT_step (k := 33) rfl) rfl rfl ?_
  refine v_dup fx dX8_init_224 rfl rfl ?_
  refine v_bipush fx dX8_init_225 (by decide +kernel) rfl ?_
  refine v_sipush fx dX8_init_227 (by decide +kernel) rfl ?_
  refine v_iast fx 1 (lfT mW 35) [(h0, ob 8 [.null, .null, .null, .null, .null, .null, .null, .int (iI 0), .int (iI 0), .int (iI 0), .null, .null, .int (iI 0), .null, .int (iI 0), .int (iI 0), .null, .int (iI 0), .int (iI 0), .int (iI 0), .int (iI 0), .null, .null, .null, .null, .int (iI 0), .int (iI 0), .int (iI 0), .int (iI 0), .int (iI 0), .int (iI 0)]), (q_1, aI g 64 (lfT mW 35))] dX8_init_230 rfl (by omega) (by omega) (lfT_step (k := 34) rfl) rfl rfl ?_
  refine v_dup fx dX8_init_231 rfl rfl ?_
  refine v_bipush fx dX8_init_232 (by decide +kernel) rfl ?_
  refine v_sipush fx dX8_init_234 (by decide +kernel) rfl ?_
  refine v_iast fx 1 (lfT mW 36) [(h0, ob 8 [.null, .null, .null, .null, .null, .null, .null, .int (iI 0), .int (iI 0), .int (iI 0), .null, .null, .int (iI 0), .null, .int (iI 0), .int (iI 0), .null, .int (iI 0), .int (iI 0), .int (iI 0), .int (iI 0), .null, .null, .null, .null, .int (iI 0), .int (iI 0), .int (iI 0), .int (iI 0), .int (iI 0), .int (iI 0)]), (q_1, aI g 64 (lfT mW 36))] dX8_init_237 rfl (by omega) (by omega) (lfT_step (k := 35) rfl) rfl rfl ?_
  refine v_dup fx dX8_init_238 rfl rfl ?_
  refine v_bipush fx dX8_init_239 (by decide +kernel) rfl ?_
  refine v_sipush fx dX8_init_241 (by decide +kernel) rfl ?_
  refine v_iast fx 1 (lfT mW 37) [(h0, ob 8 [.null, .null, .null, .null, .null, .null, .null, .int (iI 0), .int (iI 0), .int (iI 0), .null, .null, .int (iI 0), .null, .int (iI 0), .int (iI 0), .null, .int (iI 0), .int (iI 0), .int (iI 0), .int (iI 0), .null, .null, .null, .null, .int (iI 0), .int (iI 0), .int (iI 0), .int (iI 0), .int (iI 0), .int (iI 0)]), (q_1, aI g 64 (lfT mW 37))] dX8_init_244 rfl (by omega) (by omega) (lfT_step (k := 36) rfl) rfl rfl ?_
  refine v_dup fx dX8_init_245 rfl rfl ?_
  refine v_bipush fx dX8_init_246 (by decide +kernel) rfl ?_
  refine v_sipush fx dX8_init_248 (by decide +kernel) rfl ?_
  refine v_iast fx 1 (lfT mW 38) [(h0, ob 8 [.null, .null, .null, .null, .null, .null, .null, .int (iI 0), .int (iI 0), .int (iI 0), .null, .null, .int (iI 0), .null, .int (iI 0), .int (iI 0), .null, .int (iI 0), .int (iI 0), .int (iI 0), .int (iI 0), .null, .null, .null, .null, .int (iI 0), .int (iI 0), .int (iI 0), .int (iI 0), .int (iI 0), .int (iI 0)]), (q_1, aI g 64 (lfT mW 38))] dX8_init_251 rfl (by omega) (by omega) (lfT_step (k := 37) rfl) rfl rfl ?_
  refine v_dup fx dX8_init_252 rfl rfl ?_
  refine v_bipush fx dX8_init_253 (by decide +kernel) rfl ?_
  refine v_sipush fx dX8_init_255 (by decide +kernel) rfl ?_
  refine v_iast fx 1 (lfT mW 39) [(h0, ob 8 [.null, .null, .null, .null, .null, .null, .null, .int (iI 0), .int (iI 0), .int (iI 0), .null, .null, .int (iI 0), .null, .int (iI 0), .int (iI 0), .null, .int (iI 0), .int (iI 0), .int (iI 0), .int (iI 0), .null, .null, .null, .null, .int (iI 0), .int (iI 0), .int (iI 0), .int (iI 0), .int (iI 0), .int (iI 0)]), (q_1, aI g 64 (lfT mW 39))] dX8_init_258 rfl (by omega) (by omega) (lfT_step (k := 38) rfl) rfl rfl ?_
  refine v_dup fx dX8_init_259 rfl rfl ?_
  refine v_bipush fx dX8_init_260 (by decide +kernel) rfl ?_
  refine v_sipush fx dX8_init_262 (by decide +kernel) rfl ?_
  refine v_iast fx 1 (lfT mW 40) [(h0, ob 8 [.null, .null, .null, .null, .null, .null, .null, .int (iI 0), .int (iI 0), .int (iI 0), .null, .null, .int (iI 0), .null, .int (iI 0), .int (iI 0), .null, .int (iI 0), .int (iI 0), .int (iI 0), .int (iI 0), .null, .null, .null, .null, .int (iI 0), .int (iI 0), .int (iI 0), .int (iI 0), .int (iI 0), .int (iI 0)]), (q_1, aI g 64 (lfT mW 40))] dX8_init_265 rfl (by omega) (by omega) (lfT_step (k := 39) rfl) rfl rfl ?_
  refine v_dup fx dX8_init_266 rfl rfl ?_
  refine v_bipush fx dX8_init_267 (by decide +kernel) rfl ?_
  refine v_sipush fx dX8_init_269 (by decide +kernel) rfl ?_
  refine v_iast fx 1 (lfT mW 41) [(h0, ob 8 [.null, .null, .null, .null, .null, .null, .null, .int (iI 0), .int (iI 0), .int (iI 0), .null, .null, .int (iI 0), .null, .int (iI 0), .int (iI 0), .null, .int (iI 0), .int (iI 0), .int (iI 0), .int (iI 0), .null, .null, .null, .null, .int (iI 0), .int (iI 0), .int (iI 0), .int (iI 0), .int (iI 0), .int (iI 0)]), (q_1, aI g 64 (lfT mW 41))] dX8_init_272 rfl (by omega) (by omega) (lfT_step (k := 40) rfl) rfl rfl ?_
  refine v_dup fx dX8_init_273 rfl rfl ?_
  refine v_bipush fx dX8_init_274 (by decide +kernel) rfl ?_
  refine v_sipush fx dX8_init_276 (by decide +kernel) rfl ?_
  refine v_iast fx 1 (lfT mW 42) [(h0, ob 8 [.null, .null, .null, .null, .null, .null, .null, .int (iI 0), .int (iI 0), .int (iI 0), .null, .null, .int (iI 0), .null, .int (iI 0), .int (iI 0), .null, .int (iI 0), .int (iI 0), .int (iI 0), .int (iI 0), .null, .null, .null, .null, .int (iI 0), .int (iI 0), .int (iI 0), .int (iI 0), .int (iI 0), .int (iI 0)]), (q_1, aI g 64 (lfT mW 42))] dX8_init_279 rfl (by omega) (by omega) (lfT_step (k := 41) rfl) rfl rfl ?_
  refine v_dup fx dX8_init_280 rfl rfl ?_
  refine v_bipush fx dX8_init_281 (by decide +kernel) rfl ?_
  refine v_sipush fx dX8_init_283 (by decide +kernel) rfl ?_
  refine v_iast fx 1 (lfT mW 43) [(h0, ob 8 [.null, .null, .null, .null, .null, .null, .null, .int (iI 0), .int (iI 0), .int (iI 0), .null, .null, .int (iI 0), .null, .int (iI 0), .int (iI 0), .null, .int (iI 0), .int (iI 0), .int (iI 0), .int (iI 0), .null, .null, .null, .null, .int (iI 0), .int (iI 0), .int (iI 0), .int (iI 0), .int (iI 0), .int (iI 0)]), (q_1, aI g 64 (lfT mW 43))] dX8_init_286 rfl (by omega) (by omega) (lfT_step (k := 42) rfl) rfl rfl ?_
  refine v_dup fx dX8_init_287 rfl rfl ?_
  refine v_bipush fx dX8_init_288 (by decide +kernel) rfl ?_
  refine v_sipush fx dX8_init_290 (by decide +kernel) rfl ?_
  refine v_iast fx 1 (lfT mW 44) [(h0, ob 8 [.null, .null, .null, .null, .null, .null, .null, .int (iI 0), .int (iI 0), .int (iI 0), .null, .null, .int (iI 0), .null, .int (iI 0), .int (iI 0), .null, .int (iI 0), .int (iI 0), .int (iI 0), .int (iI 0), .null, .null, .null, .null, .int (iI 0), .int (iI 0), .int (iI 0), .int (iI 0), .int (iI 0), .int (iI 0)]), (q_1, aI g 64 (lfT mW 44))] dX8_init_293 rfl (by omega) (by omega) (lfT_step (k := 43) rfl) rfl rfl ?_
  refine v_dup fx dX8_init_294 rfl rfl ?_
  refine v_bipush fx dX8_init_295 (by decide +kernel) rfl ?_
  refine v_sipush fx dX8_init_297 (by decide +kernel) rfl ?_
  refine v_iast fx 1 (lfT mW 45) [(h0, ob 8 [.null, .null, .null, .null, .null, .null, .null, .int (iI 0), .int (iI 0), .int (iI 0), .null, .null, .int (iI 0), .null, .int (iI 0), .int (iI 0), .null, .int (iI 0), .int (iI 0), .int (iI 0), .int (iI 0), .null, .null, .null, .null, .int (iI 0), .int (iI 0), .int (iI 0), .int (iI 0), .int (iI 0), .int (iI 0)]), (q_1, aI g 64 (lfT mW 45))] dX8_init_300 rfl (by omega) (by omega) (lfT_step (k := 44) rfl) rfl rfl ?_
  refine v_dup fx dX8_init_301 rfl rfl ?_
  refine v_bipush fx dX8_init_302 (by decide +kernel) rfl ?_
  refine v_sipush fx dX8_init_304 (by decide +kernel) rfl ?_
  refine v_iast fx 1 (lfT mW 46) [(h0, ob 8 [.null, .null, .null, .null, .null, .null, .null, .int (iI 0), .int (iI 0), .int (iI 0), .null, .null, .int (iI 0), .null, .int (iI 0), .int (iI 0), .null, .int (iI 0), .int (iI 0), .int (iI 0), .int (iI 0), .null, .null, .null, .null, .int (iI 0), .int (iI 0), .int (iI 0), .int (iI 0), .int (iI 0), .int (iI 0)]), (q_1, aI g 64 (lfT mW 46))] dX8_init_307 rfl (by omega) (by omega) (lfT_step (k := 45) rfl) rfl rfl ?_
  refine v_dup fx dX8_init_308 rfl rfl ?_
  refine v_bipush fx dX8_init_309 (by decide +kernel) rfl ?_
  refine v_sipush fx dX8_init_311 (by decide +kernel) rfl ?_
  refine v_iast fx 1 (lfT mW 47) [(h0, ob 8 [.null, .null, .null, .null, .null, .null, .null, .int (iI 0), .int (iI 0), .int (iI 0), .null, .null, .int (iI 0), .null, .int (iI 0), .int (iI 0), .null, .int (iI 0), .int (iI 0), .int (iI 0), .int (iI 0), .null, .null, .null, .null, .int (iI 0), .int (iI 0), .int (iI 0), .int (iI 0), .int (iI 0), .int (iI 0)]), (q_1, aI g 64 (lfT mW 47))] dX8_init_314 rfl (by omega) (by omega) (lfT_step (k := 46) rfl) rfl rfl ?_
  refine v_dup fx dX8_init_315 rfl rfl ?_
  refine v_bipush fx dX8_init_316 (by decide +kernel) rfl ?_
  refine v_sipush fx dX8_init_318 (by decide +kernel) rfl ?_
  refine v_iast fx 1 (lfT mW 48) [(h0, ob 8 [.null, .null, .null, .null, .null, .null, .null, .int (iI 0), .int (iI 0), .int (iI 0), .null, .null, .int (iI 0), .null, .int (iI 0), .int (iI 0), .null, .int (iI 0), .int (iI 0), .int (iI 0), .int (iI 0), .null, .null, .null, .null, .int (iI 0), .int (iI 0), .int (iI 0), .int (iI 0), .int (iI 0), .int (iI 0)]), (q_1, aI g 64 (lfT mW 48))] dX8_init_321 rfl (by omega) (by omega) (lfT_step (k := 47) rfl) rfl rfl ?_
  refine v_dup fx dX8_init_322 rfl rfl ?_
  refine v_bipush fx dX8_init_323 (by decide +kernel) rfl ?_
  refine v_sipush fx dX8_init_325 (by decide +kernel) rfl ?_
  refine v_iast fx 1 (lfT mW 49) [(h0, ob 8 [.null, .null, .null, .null, .null, .null, .null, .int (iI 0), .int (iI 0), .int (iI 0), .null, .null, .int (iI 0), .null, .int (iI 0), .int (iI 0), .null, .int (iI 0), .int (iI 0), .int (iI 0), .int (iI 0), .null, .null, .null, .null, .int (iI 0), .int (iI 0), .int (iI 0), .int (iI 0), .int (iI 0), .int (iI 0)]), (q_1, aI g 64 (lfT mW 49))] dX8_init_328 rfl (by omega) (by omega) (lfT_step (k := 48) rfl) rfl rfl ?_
  refine v_dup fx dX8_init_329 rfl rfl ?_
  refine v_bipush fx dX8_init_330 (by decide +kernel) rfl ?_
  refine v_sipush fx dX8_init_332 (by decide +kernel) rfl ?_
  refine v_iast fx 1 (lfT mW 50) [(h0, ob 8 [.null, .null, .null, .null, .null, .null, .null, .int (iI 0), .int (iI 0), .int (iI 0), .null, .null, .int (iI 0), .null, .int (iI 0), .int (iI 0), .null, .int (iI 0), .int (iI 0), .int (iI 0), .int (iI 0), .null, .null, .null, .null, .int (iI 0), .int (iI 0), .int (iI 0), .int (iI 0), .int (iI 0), .int (iI 0)]), (q_1, aI g 64 (lfT mW 50))] dX8_init_335 rfl (by omega) (by omega) (lfT_step (k := 49) rfl) rfl rfl ?_
  refine v_dup fx dX8_init_336 rfl rfl ?_
  refine v_bipush fx dX8_init_337 (by decide +kernel) rfl ?_
  refine v_sipush fx dX8_init_339 (by decide +kernel) rfl ?_
  refine v_iast fx 1 (lfT mW 51) [(h0, ob 8 [.null, .null, .null, .null, .null, .null, .null, .int (iI 0), .int (iI 0), .int (iI 0), .null, .null, .int (iI 0), .null, .int (iI 0), .int (iI 0), .null, .int (iI 0), .int (iI 0), .int (iI 0), .int (iI 0), .null, .null, .null, .null, .int (iI 0), .int (iI 0), .int (iI 0), .int (iI 0), .int (iI 0), .int (iI 0)]), (q_1, aI g 64 (lfT mW 51))] dX8_init_342 rfl (by omega) (by omega) (lfT_step (k := 50) rfl) rfl rfl ?_
  refine v_dup fx dX8_init_343 rfl rfl ?_
  refine v_bipush fx dX8_init_344 (by decide +kernel) rfl ?_
  refine v_sipush fx dX8_init_346 (by decide +kernel) rfl ?_
  refine v_iast fx 1 (lfT mW 52) [(h0, ob 8 [.null, .null, .null, .null, .null, .null, .null, .int (iI 0), .int (iI 0), .int (iI 0), .null, .null, .int (iI 0), .null, .int (iI 0), .int (iI 0), .null, .int (iI 0), .int (iI 0), .int (iI 0), .int (iI 0), .null, .null, .null, .null, .int (iI 0), .int (iI 0), .int (iI 0), .int (iI 0), .int (iI 0), .int (iI 0)]), (q_1, aI g 64 (lfT mW 52))] dX8_init_349 rfl (by omega) (by omega) (lfT_step (k := 51) rfl) rfl rfl ?_
  refine v_dup fx dX8_init_350 rfl rfl ?_
  refine v_bipush fx dX8_init_351 (by decide +kernel) rfl ?_
  refine v_sipush fx dX8_init_353 (by decide +kernel) rfl ?_
  refine v_iast fx 1 (lfT mW 53) [(h0, ob 8 [.null, .null, .null, .null, .null, .null, .null, .int (iI 0), .int (iI 0), .int (iI 0), .null, .null, .int (iI 0), .null, .int (iI 0), .int (iI 0), .null, .int (iI 0), .int (iI 0), .int (iI 0), .int (iI 0), .null, .null, .null, .null, .int (iI 0), .int (iI 0), .int (iI 0), .int (iI 0), .int (iI 0), .int (iI 0)]), (q_1, aI g 64 (lfT mW 53))] dX8_init_356 rfl (by omega) (by omega) (lfT_step (k := 52) rfl) rfl rfl ?_
  refine v_dup fx dX8_init_357 rfl rfl ?_
  refine v_bipush fx dX8_init_358 (by decide +kernel) rfl ?_
  refine v_sipush fx dX8_init_360 (by decide +kernel) rfl ?_
  refine v_iast fx 1 (lfT mW 54) [(h0, ob 8 [.null, .null, .null, .null, .null, .null, .null, .int (iI 0), .int (iI 0), .int (iI 0), .null, .null, .int (iI 0), .null, .int (iI 0), .int (iI 0), .null, .int (iI 0), .int (iI 0), .int (iI 0), .int (iI 0), .null, .null, .null, .null, .int (iI 0), .int (iI 0), .int (iI 0), .int (iI 0), .int (iI 0), .int (iI 0)]), (q_1, aI g 64 (lfT mW 54))] dX8_init_363 rfl (by omega) (by omega) (lfT_step (k := 53) rfl) rfl rfl ?_
  refine v_dup fx dX8_init_364 rfl rfl ?_
  refine v_bipush fx dX8_init_365 (by decide +kernel) rfl ?_
  refine v_sipush fx dX8_init_367 (by decide +kernel) rfl ?_
  refine v_iast fx 1 (lfT mW 55) [(h0, ob 8 [.null, .null, .null, .null, .null, .null, .null, .int (iI 0), .int (iI 0), .int (iI 0), .null, .null, .int (iI 0), .null, .int (iI 0), .int (iI 0), .null, .int (iI 0), .int (iI 0), .int (iI 0), .int (iI 0), .null, .null, .null, .null, .int (iI 0), .int (iI 0), .int (iI 0), .int (iI 0), .int (iI 0), .int (iI 0)]), (q_1, aI g 64 (lfT mW 55))] dX8_init_370 rfl (by omega) (by omega) (lfT_step (k := 54) rfl) rfl rfl ?_
  refine v_dup fx dX8_init_371 rfl rfl ?_
  refine v_bipush fx dX8_init_372 (by decide +kernel) rfl ?_
  refine v_sipush fx dX8_init_374 (by decide +kernel) rfl ?_
  refine v_iast fx 1 (lfT mW 56) [(h0, ob 8 [.null, .null, .null, .null, .null, .null, .null, .int (iI 0), .int (iI 0), .int (iI 0), .null, .null, .int (iI 0), .null, .int (iI 0), .int (iI 0), .null, .int (iI 0), .int (iI 0), .int (iI 0), .int (iI 0), .null, .null, .null, .null, .int (iI 0), .int (iI 0), .int (iI 0), .int (iI 0), .int (iI 0), .int (iI 0)]), (q_1, aI g 64 (lfT mW 56))] dX8_init_377 rfl (by omega) (by omega) (lfT_step (k := 55) rfl) rfl rfl ?_
  refine v_dup fx dX8_init_378 rfl rfl ?_
  refine v_bipush fx dX8_init_379 (by decide +kernel) rfl ?_
  refine v_sipush fx dX8_init_381 (by decide +kernel) rfl ?_
  refine v_iast fx 1 (lfT mW 57) [(h0, ob 8 [.null, .null, .null, .null, .null, .null, .null, .int (iI 0), .int (iI 0), .int (iI 0), .null, .null, .int (iI 0), .null, .int (iI 0), .int (iI 0), .null, .int (iI 0), .int (iI 0), .int (iI 0), .int (iI 0), .null, .null, .null, .null, .int (iI 0), .int (iI 0), .int (iI 0), .int (iI 0), .int (iI 0), .int (iI 0)]), (q_1, aI g 64 (lfT mW 57))] dX8_init_384 rfl (by omega) (by omega) (lfT_step (k := 56) rfl) rfl rfl ?_
  refine v_dup fx dX8_init_385 rfl rfl ?_
  refine v_bipush fx dX8_init_386 (by decide +kernel) rfl ?_
  refine v_sipush fx dX8_init_388 (by decide +kernel) rfl ?_
  refine v_iast fx 1 (lfT mW 58) [(h0, ob 8 [.null, .null, .null, .null, .null, .null, .null, .int (iI 0), .int (iI 0), .int (iI 0), .null, .null, .int (iI 0), .null, .int (iI 0), .int (iI 0), .null, .int (iI 0), .int (iI 0), .int (iI 0), .int (iI 0), .null, .null, .null, .null, .int (iI 0), .int (iI 0), .int (iI 0), .int (iI 0), .int (iI 0), .int (iI 0)]), (q_1, aI g 64 (lfT mW 58))] dX8_init_391 rfl (by omega) (by omega) (lfT_step (k := 57) rfl) rfl rfl ?_
  refine v_dup fx dX8_init_392 rfl rfl ?_
  refine v_bipush fx dX8_init_393 (by decide +kernel) rfl ?_
  refine v_sipush fx dX8_init_395 (by decide +kernel) rfl ?_
  refine v_iast fx 1 (lfT mW 59) [(h0, ob 8 [.null, .null, .null, .null, .null, .null, .null, .int (iI 0), .int (iI 0), .int (iI 0), .null, .null, .int (iI 0), .null, .int (iI 0), .int (iI 0), .null, .int (iI 0), .int (iI 0), .int (iI 0), .int (iI 0), .null, .null, .null, .null, .int (iI 0), .int (iI 0), .int (iI 0), .int (iI 0), .int (iI 0), .int (iI 0)]), (q_1, aI g 64 (lfT mW 59))] dX8_init_398 rfl (by omega) (by omega) (lfT_step (k := 58) rfl) rfl rfl ?_
  refine v_dup fx dX8_init_399 rfl rfl ?_
  refine v_bipush fx dX8_init_400 (by decide +kernel) rfl ?_
  refine v_sipush fx dX8_init_402 (by decide +kernel) rfl ?_
  refine v_iast fx 1 (lfT mW 60) [(h0, ob 8 [.null, .null, .null, .null, .null, .null, .null, .int (iI 0), .int (iI 0), .int (iI 0), .null, .null, .int (iI 0), .null, .int (iI 0), .int (iI 0), .null, .int (iI 0), .int (iI 0), .int (iI 0), .int (iI 0), .null, .null, .null, .null, .int (iI 0), .int (iI 0), .int (iI 0), .int (iI 0), .int (iI 0), .int (iI 0)]), (q_1, aI g 64 (lfT mW 60))] dX8_init_405 rfl (by omega) (by omega) (lfT_step (k := 59) rfl) rfl rfl ?_
  refine v_dup fx dX8_init_406 rfl rfl ?_
  refine v_bipush fx dX8_init_407 (by decide +kernel) rfl ?_
  refine v_sipush fx dX8_init_409 (by decide +kernel) rfl ?_
  refine v_iast fx 1 (lfT mW 61) [(h0, ob 8 [.null, .null, .null, .null, .null, .null, .null, .int (iI 0), .int (iI 0), .int (iI 0), .null, .null, .int (iI 0), .null, .int (iI 0), .int (iI 0), .null, .int (iI 0), .int (iI 0), .int (iI 0), .int (iI 0), .null, .null, .null, .null, .int (iI 0), .int (iI 0), .int (iI 0), .int (iI 0), .int (iI 0), .int (iI 0)]), (q_1, aI g 64 (lfT mW 61))] dX8_init_412 rfl (by omega) (by omega) (lfT_step (k := 60) rfl) rfl rfl ?_
  refine v_dup fx dX8_init_413 rfl rfl ?_
  refine v_bipush fx dX8_init_414 (by decide +kernel) rfl ?_
  refine v_sipush fx dX8_init_416 (by decide +kernel) rfl ?_
  refine v_iast fx 1 (lfT mW 62) [(h0, ob 8 [.null, .null, .null, .null, .null, .null, .null, .int (iI 0), .int (iI 0), .int (iI 0), .null, .null, .int (iI 0), .null, .int (iI 0), .int (iI 0), .null, .int (iI 0), .int (iI 0), .int (iI 0), .int (iI 0), .null, .null, .null, .null, .int (iI 0), .int (iI 0), .int (iI 0), .int (iI 0), .int (iI 0), .int (iI 0)]), (q_1, aI g 64 (lfT mW 62))] dX8_init_419 rfl (by omega) (by omega) (lfT_step (k := 61) rfl) rfl rfl ?_
  refine v_dup fx dX8_init_420 rfl rfl ?_
  refine v_bipush fx dX8_init_421 (by decide +kernel) rfl ?_
  refine v_sipush fx dX8_init_423 (by decide +kernel) rfl ?_
  refine v_iast fx 1 (lfT mW 63) [(h0, ob 8 [.null, .null, .null, .null, .null, .null, .null, .int (iI 0), .int (iI 0), .int (iI 0), .null, .null, .int (iI 0), .null, .int (iI 0), .int (iI 0), .null, .int (iI 0), .int (iI 0), .int (iI 0), .int (iI 0), .null, .null, .null, .null, .int (iI 0), .int (iI 0), .int (iI 0), .int (iI 0), .int (iI 0), .int (iI 0)]), (q_1, aI g 64 (lfT mW 63))] dX8_init_426 rfl (by omega) (by omega) (lfT_step (k := 62) rfl) rfl rfl ?_
  refine v_dup fx dX8_init_427 rfl rfl ?_
  refine v_bipush fx dX8_init_428 (by decide +kernel) rfl ?_
  refine v_sipush fx dX8_init_430 (by decide +kernel) rfl ?_
  refine v_iast fx 1 (lfT mW 64) [(h0, ob 8 [.null, .null, .null, .null, .null, .null, .null, .int (iI 0), .int (iI 0), .int (iI 0), .null, .null, .int (iI 0), .null, .int (iI 0), .int (iI 0), .null, .int (iI 0), .int (iI 0), .int (iI 0), .int (iI 0), .null, .null, .null, .null, .int (iI 0), .int (iI 0), .int (iI 0), .int (iI 0), .int (iI 0), .int (iI 0)]), (q_1, aI g 64 (lfT mW 64))] dX8_init_433 rfl (by omega) (by omega) (lfT_step (k := 63) rfl) rfl rfl ?_
  refine v_putF fx 0 0 [(h0, ob 8 [.ref q_1, .null, .null, .null, .null, .null, .null, .int (iI 0), .int (iI 0), .int (iI 0), .null, .null, .int (iI 0), .null, .int (iI 0), .int (iI 0), .null, .int (iI 0), .int (iI 0), .int (iI 0), .int (iI 0), .null, .null, .null, .null, .int (iI 0), .int (iI 0), .int (iI 0), .int (iI 0), .int (iI 0), .int (iI 0)]), (q_1, aI g 64 (lfT mW 64))] hnm inX8 tyX8_ok nmX8 k996 dX8_init_434 rfl rfl (by decide) rfl rfl rfl rfl rfl (nl rfl) rfl rfl ?_
  refine v_aload_n fx 0 dX8_init_437 rfl rfl ?_
  refine v_bipush fx dX8_init_438 (by decide +kernel) rfl ?_
  refine v_newa fx 0 .int 64 (64, .inl (fun _ => 0)) 2 128 k98 dX8_init_440 rfl rfl rfl (by omega) rfl (fun cA => arr0_int cA _) (by decide) (nl rfl) (nl rfl) rfl rfl rfl (fun q_2 => ?_)
  refine v_is (wn := [(h0, ob 8 [.ref q_1, .null, .null, .null, .null, .null, .null, .int (iI 0), .int (iI 0), .int (iI 0), .null, .null, .int (iI 0), .null, .int (iI 0), .int (iI 0), .null, .int (iI 0), .int (iI 0), .int (iI 0), .int (iI 0), .null, .null, .null, .null, .int (iI 0), .int (iI 0), .int (iI 0), .int (iI 0), .int (iI 0), .int (iI 0)]), (q_1, aI g 64 (lfT mW 64)), (q_2, aI g 64 (fun _ => 0))]) (cn := 2) (sn := 128) (sn2 := [.ref q_2, .ref h0]) rfl rfl rfl rfl ?_
  refine v_dup fx dX8_init_442 rfl rfl ?_
  refine v_iconst fx dX8_init_443 rfl ?_
  refine v_sipush fx dX8_init_444 (by decide +kernel) rfl ?_
  refine v_iast fx 2 (lfT mB 1) [(h0, ob 8 [.ref q_1, .null, .null, .null, .null, .null, .null, .int (iI 0), .int (iI 0), .int (iI 0), .null, .null, .int (iI 0), .null, .int (iI 0), .int (iI 0), .null, .int (iI 0), .int (iI 0), .int (iI 0), .int (iI 0), .null, .null, .null, .null, .int (iI 0), .int (iI 0), .int (iI 0), .int (iI 0), .int (iI 0), .int (iI 0)]), (q_1, aI g 64 (lfT mW 64)), (q_2, aI g 64 (lfT mB 1))] dX8_init_447 rfl (by omega) (by omega) (lfT_first rfl) rfl rfl ?_
  refine v_dup fx dX8_init_448 rfl rfl ?_
  refine v_iconst fx dX8_init_449 rfl ?_
  refine v_bipush fx dX8_init_450 (by decide +kernel) rfl ?_
  refine v_iast fx 2 (lfT mB 2) [(h0, ob 8 [.ref q_1, .null, .null, .null, .null, .null, .null, .int (iI 0), .int (iI 0), .int (iI 0), .null, .null, .int (iI 0), .null, .int (iI 0), .int (iI 0), .null, .int (iI 0), .int (iI 0), .int (iI 0), .int (iI 0), .null, .null, .null, .null, .int (iI 0), .int (iI 0), .int (iI 0), .int (iI 0), .int (iI 0), .int (iI 0)]), (q_1, aI g 64 (lfT mW 64)), (q_2, aI g 64 (lfT mB 2))] dX8_init_452 rfl (by omega) (by omega) (lfT_step (k := 1) rfl) rfl rfl ?_
  refine v_dup fx dX8_init_453 rfl rfl ?_
  refine v_iconst fx dX8_init_454 rfl ?_
  refine v_bipush fx dX8_init_455 (by decide +kernel) rfl ?_
  refine v_iast fx 2 (lfT mB 3) [(h0, ob 8 [.ref q_1, .null, .null, .null, .null, .null, .null, .int (iI 0), .int (iI 0), .int (iI 0), .null, .null, .int (iI 0), .null, .int (iI 0), .int (iI 0), .null, .int (iI 0), .int (iI 0), .int (iI 0), .int (iI 0), .null, .null, .null, .null, .int (iI 0), .int (iI 0), .int (iI 0), .int (iI 0), .int (iI 0), .int (iI 0)]), (q_1, aI g 64 (lfT mW 64)), (q_2, aI g 64 (lfT mB 3))] dX8_init_457 rfl (by omega) (by omega) (lfT_step (k := 2) rfl) rfl rfl ?_
  refine v_dup fx dX8_init_458 rfl rfl ?_
  refine v_iconst fx dX8_init_459 rfl ?_
  refine v_bipush fx dX8_init_460 (by decide +kernel) rfl ?_
  refine v_iast fx 2 (lfT mB 4) [(h0, ob 8 [.ref q_1, .null, .null, .null, .null, .null, .null, .int (iI 0), .int (iI 0), .int (iI 0), .null, .null, .int (iI 0), .null, .int (iI 0), .int (iI 0), .null, .int (iI 0), .int (iI 0), .int (iI 0), .int (iI 0), .null, .null, .null, .null, .int (iI 0), .int (iI 0), .int (iI 0), .int (iI 0), .int (iI 0), .int (iI 0)]), (q_1, aI g 64 (lfT mW 64)), (q_2, aI g 64 (lfT mB 4))] dX8_init_462 rfl (by omega) (by omega) (lfT_step (k := 3) rfl) rfl rfl ?_
  refine v_dup fx dX8_init_463 rfl rfl ?_
  refine v_iconst fx dX8_init_464 rfl ?_
  refine v_bipush fx dX8_init_465 (by decide +kernel) rfl ?_
  refine v_iast fx 2 (lfT mB 5) [(h0, ob 8 [.ref q_1, .null, .null, .null, .null, .null, .null, .int (iI 0), .int (iI 0), .int (iI 0), .null, .null, .int (iI 0), .null, .int (iI 0), .int (iI 0), .null, .int (iI 0), .int (iI 0), .int (iI 0), .int (iI 0), .null, .null, .null, .null, .int (iI 0), .int (iI 0), .int (iI 0), .int (iI 0), .int (iI 0), .int (iI 0)]), (q_1, aI g 64 (lfT mW 64)), (q_2, aI g 64 (lfT mB 5))] dX8_init_467 rfl (by omega) (by omega) (lfT_step (k := 4) rfl) rfl rfl ?_
  refine v_dup fx dX8_init_468 rfl rfl ?_
  refine v_iconst fx dX8_init_469 rfl ?_
  refine v_bipush fx dX8_init_470 (by decide +kernel) rfl ?_
  refine v_iast fx 2 (lfT mB 6) [(h0, ob 8 [.ref q_1, .null, .null, .null, .null, .null, .null, .int (iI 0), .int (iI 0), .int (iI 0), .null, .null, .int (iI 0), .null, .int (iI 0), .int (iI 0), .null, .int (iI 0), .int (iI 0), .int (iI 0), .int (iI 0), .null, .null, .null, .null, .int (iI 0), .int (iI 0), .int (iI 0), .int (iI 0), .int (iI 0), .int (iI 0)]), (q_1, aI g 64 (lfT mW 64)), (q_2, aI g 64 (lfT mB 6))] dX8_init_472 rfl (by omega) (by omega) (lfT_step (k := 5) rfl) rfl rfl ?_
  refine v_dup fx dX8_init_473 rfl rfl ?_
  refine v_bipush fx dX8_init_474 (by decide +kernel) rfl ?_
  refine v_bipush fx dX8_init_476 (by decide +kernel) rfl ?_
  refine v_iast fx 2 (lfT mB 7) [(h0, ob 8 [.ref q_1, .null, .null, .null, .null, .null, .null, .int (iI 0), .int (iI 0), .int (iI 0), .null, .null, .int (iI 0), .null, .int (iI 0), .int (iI 0), .null, .int (iI 0), .int (iI 0), .int (iI 0), .int (iI 0), .null, .null, .null, .null, .int (iI 0), .int (iI 0), .int (iI 0), .int (iI 0), .int (iI 0), .int (iI 0)]), (q_1, aI g 64 (lfT mW 64)), (q_2, aI g 64 (lfT mB 7))] dX8_init_478 rfl (by omega) (by omega) (lfT_step (k := 6) rfl) rfl rfl ?_
  refine v_dup fx dX8_init_479 rfl rfl ?_
  refine v_bipush fx dX8_init_480 (by decide +kernel) rfl ?_
  refine v_bipush fx dX8_init_482 (by decide +kernel) rfl ?_
  refine v_iast fx 2 (lfT mB 8) [(h0, ob 8 [.ref q_1, .null, .null, .null, .null, .null, .null, .int (iI 0), .int (iI 0), .int (iI 0), .null, .null, .int (iI 0), .null, .int (iI 0), .int (iI 0), .null, .int (iI 0), .int (iI 0), .int (iI 0), .int (iI 0), .null, .null, .null, .null, .int (iI 0), .int (iI 0), .int (iI 0), .int (iI 0), .int (iI 0), .int (iI 0)]), (q_1, aI g 64 (lfT mW 64)), (q_2, aI g 64 (lfT mB 8))] dX8_init_484 rfl (by omega) (by omega) (lfT_step (k := 7) rfl) rfl rfl ?_
  refine v_dup fx dX8_init_485 rfl rfl ?_
  refine v_bipush fx dX8_init_486 (by decide +kernel) rfl ?_
  refine v_bipush fx dX8_init_488 (by decide +kernel) rfl ?_
  refine v_iast fx 2 (lfT mB 9) [(h0, ob 8 [.ref q_1, .null, .null, .null, .null, .null, .null, .int (iI 0), .int (iI 0), .int (iI 0), .null, .null, .int (iI 0), .null, .int (iI 0), .int (iI 0), .null, .int (iI 0), .int (iI 0), .int (iI 0), .int (iI 0), .null, .null, .null, .null, .int (iI 0), .int (iI 0), .int (iI 0), .int (iI 0), .int (iI 0), .int (iI 0)]), (q_1, aI g 64 (lfT mW 64)), (q_2, aI g 64 (lfT mB 9))] dX8_init_490 rfl (by omega) (by omega) (lfT_step (k := 8) rfl) rfl rfl ?_
  refine v_dup fx dX8_init_491 rfl rfl ?_
  refine v_bipush fx dX8_init_492 (by decide +kernel) rfl ?_
  refine v_bipush fx dX8_init_494 (by decide +kernel) rfl ?_
  refine v_iast fx 2 (lfT mB 10) [(h0, ob 8 [.ref q_1, .null, .null, .null, .null, .null, .null, .int (iI 0), .int (iI 0), .int (iI 0), .null, .null, .int (iI 0), .null, .int (iI 0), .int (iI 0), .null, .int (iI 0), .int (iI 0), .int (iI 0), .int (iI 0), .null, .null, .null, .null, .int (iI 0), .int (iI 0), .int (iI 0), .int (iI 0), .int (iI 0), .int (iI 0)]), (q_1, aI g 64 (lfT mW 64)), (q_2, aI g 64 (lfT mB 10))] dX8_init_496 rfl (by omega) (by omega) (lfT_step (k := 9) rfl) rfl rfl ?_
  refine v_dup fx dX8_init_497 rfl rfl ?_
  refine v_bipush fx dX8_init_498 (by decide +kernel) rfl ?_
  refine v_sipush fx dX8_init_500 (by decide +kernel) rfl ?_
  refine v_iast fx 2 (lfT mB 11) [(h0, ob 8 [.ref q_1, .null, .null, .null, .null, .null, .null, .int (iI 0), .int (iI 0), .int (iI 0), .null, .null, .int (iI 0), .null, .int (iI 0), .int (iI 0), .null, .int (iI 0), .int (iI 0), .int (iI 0), .int (iI 0), .null, .null, .null, .null, .int (iI 0), .int (iI 0), .int (iI 0), .int (iI 0), .int (iI 0), .int (iI 0)]), (q_1, aI g 64 (lfT mW 64)), (q_2, aI g 64 (lfT mB 11))] dX8_init_503 rfl (by omega) (by omega) (lfT_step (k := 10) rfl) rfl rfl ?_
  refine v_dup fx dX8_init_504 rfl rfl ?_
  refine v_bipush fx dX8_init_505 (by decide +kernel) rfl ?_
  refine v_sipush fx dX8_init_507 (by decide +kernel) rfl ?_
  refine v_iast fx 2 (lfT mB 12) [(h0, ob 8 [.ref q_1, .null, .null, .null, .null, .null, .null, .int (iI 0), .int (iI 0), .int (iI 0), .null, .null, .int (iI 0), .null, .int (iI 0), .int (iI 0), .null, .int (iI 0), .int (iI 0), .int (iI 0), .int (iI 0), .null, .null, .null, .null, .int (iI 0), .int (iI 0), .int (iI 0), .int (iI 0), .int (iI 0), .int (iI 0)]), (q_1, aI g 64 (lfT mW 64)), (q_2, aI g 64 (lfT mB 12))] dX8_init_510 rfl (by omega) (by omega) (lfT_step (k := 11) rfl) rfl rfl ?_
  refine v_dup fx dX8_init_511 rfl rfl ?_
  refine v_bipush fx dX8_init_512 (by decide +kernel) rfl ?_
  refine v_sipush fx dX8_init_514 (by decide +kernel) rfl ?_
  refine v_iast fx 2 (lfT mB 13) [(h0, ob 8 [.ref q_1, .null, .null, .null, .null, .null, .null, .int (iI 0), .int (iI 0), .int (iI 0), .null, .null, .int (iI 0), .null, .int (iI 0), .int (iI 0), .null, .int (iI 0), .int (iI 0), .int (iI 0), .int (iI 0), .null, .null, .null, .null, .int (iI 0), .int (iI 0), .int (iI 0), .int (iI 0), .int (iI 0), .int (iI 0)]), (q_1, aI g 64 (lfT mW 64)), (q_2, aI g 64 (lfT mB 13))] dX8_init_517 rfl (by omega) (by omega) (lfT_step (k := 12) rfl) rfl rfl ?_
  refine v_dup fx dX8_init_518 rfl rfl ?_
  refine v_bipush fx dX8_init_519 (by decide +kernel) rfl ?_
  refine v_sipush fx dX8_init_521 (by decide +kernel) rfl ?_
  refine v_iast fx 2 (lfT mB 14) [(h0, ob 8 [.ref q_1, .null, .null, .null, .null, .null, .null, .int (iI 0), .int (iI 0), .int (iI 0), .null, .null, .int (iI 0), .null, .int (iI 0), .int (iI 0), .null, .int (iI 0), .int (iI 0), .int (iI 0), .int (iI 0), .null, .null, .null, .null, .int (iI 0), .int (iI 0), .int (iI 0), .int (iI 0), .int (iI 0), .int (iI 0)]), (q_1, aI g 64 (lfT mW 64)), (q_2, aI g 64 (lfT mB 14))] dX8_init_524 rfl (by omega) (by omega) (lfT_step (k := 13) rfl) rfl rfl ?_
  refine v_dup fx dX8_init_525 rfl rfl ?_
  refine v_bipush fx dX8_init_526 (by decide +kernel) rfl ?_
  refine v_sipush fx dX8_init_528 (by decide +kernel) rfl ?_
  refine v_iast fx 2 (lfT mB 15) [(h0, ob 8 [.ref q_1, .null, .null, .null, .null, .null, .null, .int (iI 0), .int (iI 0), .int (iI 0), .null, .null, .int (iI 0), .null, .int (iI 0), .int (iI 0), .null, .int (iI 0), .int (iI 0), .int (iI 0), .int (iI 0), .null, .null, .null, .null, .int (iI 0), .int (iI 0), .int (iI 0), .int (iI 0), .int (iI 0), .int (iI 0)]), (q_1, aI g 64 (lfT mW 64)), (q_2, aI g 64 (lfT mB 15))] dX8_init_531 rfl (by omega) (by omega) (lfT_step (k := 14) rfl) rfl rfl ?_
  refine v_dup fx dX8_init_532 rfl rfl ?_
  refine v_bipush fx dX8_init_533 (by decide +kernel) rfl ?_
  refine v_sipush fx dX8_init_535 (by decide +kernel) rfl ?_
  refine v_iast fx 2 (lfT mB 16) [(h0, ob 8 [.ref q_1, .null, .null, .null, .null, .null, .null, .int (iI 0), .int (iI 0), .int (iI 0), .null, .null, .int (iI 0), .null, .int (iI 0), .int (iI 0), .null, .int (iI 0), .int (iI 0), .int (iI 0), .int (iI 0), .null, .null, .null, .null, .int (iI 0), .int (iI 0), .int (iI 0), .int (iI 0), .int (iI 0), .int (iI 0)]), (q_1, aI g 64 (lfT mW 64)), (q_2, aI g 64 (lfT mB 16))] dX8_init_538 rfl (by omega) (by omega) (lfT_step (k := 15) rfl) rfl rfl ?_
  refine v_dup fx dX8_init_539 rfl rfl ?_
  refine v_bipush fx dX8_init_540 (by decide +kernel) rfl ?_
  refine v_sipush fx dX8_init_542 (by decide +kernel) rfl ?_
  refine v_iast fx 2 (lfT mB 17) [(h0, ob 8 [.ref q_1, .null, .null, .null, .null, .null, .null, .int (iI 0), .int (iI 0), .int (iI 0), .null, .null, .int (iI 0), .null, .int (iI 0), .int (iI 0), .null, .int (iI 0), .int (iI 0), .int (iI 0), .int (iI 0), .null, .null, .null, .null, .int (iI 0), .int (iI 0), .int (iI 0), .int (iI 0), .int (iI 0), .int (iI 0)]), (q_1, aI g 64 (lfT mW 64)), (q_2, aI g 64 (lfT mB 17))] dX8_init_545 rfl (by omega) (by omega) (lfT_step (k := 16) rfl) rfl rfl ?_
  refine v_dup fx dX8_init_546 rfl rfl ?_
  refine v_bipush fx dX8_init_547 (by decide +kernel) rfl ?_
  refine v_sipush fx dX8_init_549 (by decide +kernel) rfl ?_
  refine v_iast fx 2 (lfT mB 18) [(h0, ob 8 [.ref q_1, .null, .null, .null, .null, .null, .null, .int (iI 0), .int (iI 0), .int (iI 0), .null, .null, .int (iI 0), .null, .int (iI 0), .int (iI 0), .null, .int (iI 0), .int (iI 0), .int (iI 0), .int (iI 0), .null, .null, .null, .null, .int (iI 0), .int (iI 0), .int (iI 0), .int (iI 0), .int (iI 0), .int (iI 0)]), (q_1, aI g 64 (lfT mW 64)), (q_2, aI g 64 (lfT mB 18))] dX8_init_552 rfl (by omega) (by omega) (lfT_step (k := 17) rfl) rfl rfl ?_
  refine v_dup fx dX8_init_553 rfl rfl ?_
  refine v_bipush fx dX8_init_554 (by decide +kernel) rfl ?_
  refine v_sipush fx dX8_init_556 (by decide +kernel) rfl ?_
  refine v_iast fx 2 (lfT mB 19) [(h0, ob 8 [.ref q_1, .null, .null, .null, .null, .null, .null, .int (iI 0), .int (iI 0), .int (iI 0), .null, .null, .int (iI 0), .null, .int (iI 0), .int (iI 0), .null, .int (iI 0), .int (iI 0), .int (iI 0), .int (iI 0), .null, .null, .null, .null, .int (iI 0), .int (iI 0), .int (iI 0), .int (iI 0), .int (iI 0), .int (iI 0)]), (q_1, aI g 64 (lfT mW 64)), (q_2, aI g 64 (lfT mB 19))] dX8_init_559 rfl (by omega) (by omega) (lfT_step (k := 18) rfl) rfl rfl ?_
  refine v_dup fx dX8_init_560 rfl rfl ?_
  refine v_bipush fx dX8_init_561 (by decide +kernel) rfl ?_
  refine v_sipush fx dX8_init_563 (by decide +kernel) rfl ?_
  refine v_iast fx 2 (lfT mB 20) [(h0, ob 8 [.ref q_1, .null, .null, .null, .null, .null, .null, .int (iI 0), .int (iI 0), .int (iI 0), .null, .null, .int (iI 0), .null, .int (iI 0), .int (iI 0), .null, .int (iI 0), .int (iI 0), .int (iI 0), .int (iI 0), .null, .null, .null, .null, .int (iI 0), .int (iI 0), .int (iI 0), .int (iI 0), .int (iI 0), .int (iI 0)]), (q_1, aI g 64 (lfT mW 64)), (q_2, aI g 64 (lfT mB 20))] dX8_init_566 rfl (by omega) (by omega) (lfT_step (k := 19) rfl) rfl rfl ?_
  refine v_dup fx dX8_init_567 rfl rfl ?_
  refine v_bipush fx dX8_init_568 (by decide +kernel) rfl ?_
  refine v_sipush fx dX8_init_570 (by decide +kernel) rfl ?_
  refine v_iast fx 2 (lfT mB 21) [(h0, ob 8 [.ref q_1, .null, .null, .null, .null, .null, .null, .int (iI 0), .int (iI 0), .int (iI 0), .null, .null, .int (iI 0), .null, .int (iI 0), .int (iI 0), .null, .int (iI 0), .int (iI 0), .int (iI 0), .int (iI 0), .null, .null, .null, .null, .int (iI 0), .int (iI 0), .int (iI 0), .int (iI 0), .int (iI 0), .int (iI 0)]), (q_1, aI g 64 (lfT mW 64)), (q_2, aI g 64 (lfT mB 21))] dX8_init_573 rfl (by omega) (by omega) (lfT_step (k := 20) rfl) rfl rfl ?_
  refine v_dup fx dX8_init_574 rfl rfl ?_
  refine v_bipush fx dX8_init_575 (by decide +kernel) rfl ?_
  refine v_sipush fx dX8_init_577 (by decide +kernel) rfl ?_
  refine v_iast fx 2 (lfT mB 22) [(h0, ob 8 [.ref q_1, .null, .null, .null, .null, .null, .null, .int (iI 0), .int (iI 0), .int (iI 0), .null, .null, .int (iI 0), .null, .int (iI 0), .int (iI 0), .null, .int (iI 0), .int (iI 0), .int (iI 0), .int (iI 0), .null, .null, .null, .null, .int (iI 0), .int (iI 0), .int (iI 0), .int (iI 0), .int (iI 0), .int (iI 0)]), (q_1, aI g 64 (lfT mW 64)), (q_2, aI g 64 (lfT mB 22))] dX8_init_580 rfl (by omega) (by omega) (lfT_step (k := 21) rfl) rfl rfl ?_
  refine v_dup fx dX8_init_581 rfl rfl ?_
  refine v_bipush fx dX8_init_582 (by decide +kernel) rfl ?_
  refine v_sipush fx dX8_init_584 (by decide +kernel) rfl ?_
  refine v_iast fx 2 (lfT mB 23) [(h0, ob 8 [.ref q_1, .null, .null, .null, .null, .null, .null, .int (iI 0), .int (iI 0), .int (iI 0), .null, .null, .int (iI 0), .null, .int (iI 0), .int (iI 0), .null, .int (iI 0), .int (iI 0), .int (iI 0), .int (iI 0), .null, .null, .null, .null, .int (iI 0), .int (iI 0), .int (iI 0), .int (iI 0), .int (iI 0), .int (iI 0)]), (q_1, aI g 64 (lfT mW 64)), (q_2, aI g 64 (lfT mB 23))] dX8_init_587 rfl (by omega) (by omega) (lfT_step (k := 22) rfl) rfl rfl ?_
  refine v_dup fx dX8_init_588 rfl rfl ?_
  refine v_bipush fx dX8_init_589 (by decide +kernel) rfl ?_
  refine v_sipush fx dX8_init_591 (by decide +kernel) rfl ?_
  refine v_iast fx 2 (lfT mB 24) [(h0, ob 8 [.ref q_1, .null, .null, .null, .null, .null, .null, .int (iI 0), .int (iI 0), .int (iI 0), .null, .null, .int (iI 0), .null, .int (iI 0), .int (iI 0), .null, .int (iI 0), .int (iI 0), .int (iI 0), .int (iI 0), .null, .null, .null, .null, .int (iI 0), .int (iI 0), .int (iI 0), .int (iI 0), .int (iI 0), .int (iI 0)]), (q_1, aI g 64 (lfT mW 64)), (q_2, aI g 64 (lfT mB 24))] dX8_init_594 rfl (by omega) (by omega) (lfT_step (k := 23) rfl) rfl rfl ?_
  refine v_dup fx dX8_init_595 rfl rfl ?_
  refine v_bipush fx dX8_init_596 (by decide +kernel) rfl ?_
  refine v_sipush fx dX8_init_598 (by decide +kernel) rfl ?_
  refine v_iast fx 2 (lfT mB 25) [(h0, ob 8 [.ref q_1, .null, .null, .null, .null, .null, .null, .int (iI 0), .int (iI 0), .int (iI 0), .null, .null, .int (iI 0), .null, .int (iI 0), .int (iI 0), .null, .int (iI 0), .int (iI 0), .int (iI 0), .int (iI 0), .null, .null, .null, .null, .int (iI 0), .int (iI 0), .int (iI 0), .int (iI 0), .int (iI 0), .int (iI 0)]), (q_1, aI g 64 (lfT mW 64)), (q_2, aI g 64 (lfT mB 25))] dX8_init_601 rfl (by omega) (by omega) (lfT_step (k := 24) rfl) rfl rfl ?_
  refine v_dup fx dX8_init_602 rfl rfl ?_
  refine v_bipush fx dX8_init_603 (by decide +kernel) rfl ?_
  refine v_sipush fx dX8_init_605 (by decide +kernel) rfl ?_
  refine v_iast fx 2 (lfT mB 26) [(h0, ob 8 [.ref q_1, .null, .null, .null, .null, .null, .null, .int (iI 0), .int (iI 0), .int (iI 0), .null, .null, .int (iI 0), .null, .int (iI 0), .int (iI 0), .null, .int (iI 0), .int (iI 0), .int (iI 0), .int (iI 0), .null, .null, .null, .null, .int (iI 0), .int (iI 0), .int (iI 0), .int (iI 0), .int (iI 0), .int (iI 0)]), (q_1, aI g 64 (lfT mW 64)), (q_2, aI g 64 (lfT mB 26))] dX8_init_608 rfl (by omega) (by omega) (lfT_step (k := 25) rfl) rfl rfl ?_
  refine v_dup fx dX8_init_609 rfl rfl ?_
  refine v_bipush fx dX8_init_610 (by decide +kernel) rfl ?_
  refine v_sipush fx dX8_init_612 (by decide +kernel) rfl ?_
  refine v_iast fx 2 (lfT mB 27) [(h0, ob 8 [.ref q_1, .null, .null, .null, .null, .null, .null, .int (iI 0), .int (iI 0), .int (iI 0), .null, .null, .int (iI 0), .null, .int (iI 0), .int (iI 0), .null, .int (iI 0), .int (iI 0), .int (iI 0), .int (iI 0), .null, .null, .null, .null, .int (iI 0), .int (iI 0), .int (iI 0), .int (iI 0), .int (iI 0), .int (iI 0)]), (q_1, aI g 64 (lfT mW 64)), (q_2, aI g 64 (lfT mB 27))] dX8_init_615 rfl (by omega) (by omega) (lfT_step (k := 26) rfl) rfl rfl ?_
  refine v_dup fx dX8_init_616 rfl rfl ?_
  refine v_bipush fx dX8_init_617 (by decide +kernel) rfl ?_
  refine v_sipush fx dX8_init_619 (by decide +kernel) rfl ?_
  refine v_iast fx 2 (lfT mB 28) [(h0, ob 8 [.ref q_1, .null, .null, .null, .null, .null, .null, .int (iI 0), .int (iI 0), .int (iI 0), .null, .null, .int (iI 0), .null, .int (iI 0), .int (iI 0), .null, .int (iI 0), .int (iI 0), .int (iI 0), .int (iI 0), .null, .null, .null, .null, .int (iI 0), .int (iI 0), .int (iI 0), .int (iI 0), .int (iI 0), .int (iI 0)]), (q_1, aI g 64 (lfT mW 64)), (q_2, aI g 64 (lfT mB 28))] dX8_init_622 rfl (by omega) (by omega) (lfT_step (k := 27) rfl) rfl rfl ?_
  refine v_dup fx dX8_init_623 rfl rfl ?_
  refine v_bipush fx dX8_init_624 (by decide +kernel) rfl ?_
  refine v_sipush fx dX8_init_626 (by decide +kernel) rfl ?_
  refine v_iast fx 2 (lfT mB 29) [(h0, ob 8 [.ref q_1, .null, .null, .null, .null, .null, .null, .int (iI 0), .int (iI 0), .int (iI 0), .null, .null, .int (iI 0), .null, .int (iI 0), .int (iI 0), .null, .int (iI 0), .int (iI 0), .int (iI 0), .int (iI 0), .null, .null, .null, .null, .int (iI 0), .int (iI 0), .int (iI 0), .int (iI 0), .int (iI 0), .int (iI 0)]), (q_1, aI g 64 (lfT mW 64)), (q_2, aI g 64 (lfT mB 29))] dX8_init_629 rfl (by omega) (by omega) (lfT_step (k := 28) rfl) rfl rfl ?_
  refine v_dup fx dX8_init_630 rfl rfl ?_
  refine v_bipush fx dX8_init_631 (by decide +kernel) rfl ?_
  refine v_sipush fx dX8_init_633 (by decide +kernel) rfl ?_
  refine v_iast fx 2 (lfT mB 30) [(h0, ob 8 [.ref q_1, .null, .null, .null, .null, .null, .null, .int (iI 0), .int (iI 0), .int (iI 0), .null, .null, .int (iI 0), .null, .int (iI 0), .int (iI 0), .null, .int (iI 0), .int (iI 0), .int (iI 0), .int (iI 0), .null, .null, .null, .null, .int (iI 0), .int (iI 0), .int (iI 0), .int (iI 0), .int (iI 0), .int (iI 0)]), (q_1, aI g 64 (lfT mW 64)), (q_2, aI g 64 (lfT mB 30))] dX8_init_636 rfl (by omega) (by omega) (lfT_step (k := 29) rfl) rfl rfl ?_
  refine v_dup fx dX8_init_637 rfl rfl ?_
  refine v_bipush fx dX8_init_638 (by decide +kernel) rfl ?_
  refine v_sipush fx dX8_init_640 (by decide +kernel) rfl ?_
  refine v_iast fx 2 (lfT mB 31) [(h0, ob 8 [.ref q_1, .null, .null, .null, .null, .null, .null, .int (iI 0), .int (iI 0), .int (iI 0), .null, .null, .int (iI 0), .null, .int (iI 0), .int (iI 0), .null, .int (iI 0), .int (iI 0), .int (iI 0), .int (iI 0), .null, .null, .null, .null, .int (iI 0), .int (iI 0), .int (iI 0), .int (iI 0), .int (iI 0), .int (iI 0)]), (q_1, aI g 64 (lfT mW 64)), (q_2, aI g 64 (lfT mB 31))] dX8_init_643 rfl (by omega) (by omega) (lfT_step (k := 30) rfl) rfl rfl ?_
  refine v_dup fx dX8_init_644 rfl rfl ?_
  refine v_bipush fx dX8_init_645 (by decide +kernel) rfl ?_
  refine v_sipush fx dX8_init_647 (by decide +kernel) rfl ?_
  refine v_iast fx 2 (lfT mB 32) [(h0, ob 8 [.ref q_1, .null, .null, .null, .null, .null, .null, .int (iI 0), .int (iI 0), .int (iI 0), .null, .null, .int (iI 0), .null, .int (iI 0), .int (iI 0), .null, .int (iI 0), .int (iI 0), .int (iI 0), .int (iI 0), .null, .null, .null, .null, .int (iI 0), .int (iI 0), .int (iI 0), .int (iI 0), .int (iI 0), .int (iI 0)]), (q_1, aI g 64 (lfT mW 64)), (q_2, aI g 64 (lfT mB 32))] dX8_init_650 rfl (by omega) (by omega) (lfT_step (k := 31) rfl) rfl rfl ?_
  refine v_dup fx dX8_init_651 rfl rfl ?_
  refine v_bipush fx dX8_init_652 (by decide +kernel) rfl ?_
  refine v_sipush fx dX8_init_654 (by decide +kernel) rfl ?_
  refine v_iast fx 2 (lfT mB 33) [(h0, ob 8 [.ref q_1, .null, .null, .null, .null, .null, .null, .int (iI 0), .int (iI 0), .int (iI 0), .null, .null, .int (iI 0), .null, .int (iI 0), .int (iI 0), .null, .int (iI 0), .int (iI 0), .int (iI 0), .int (iI 0), .null, .null, .null, .null, .int (iI 0), .int (iI 0), .int (iI 0), .int (iI 0), .int (iI 0), .int (iI 0)]), (q_1, aI g 64 (lfT mW 64)), (q_2, aI g 64 (lfT mB 33))] dX8_init_657 rfl (by omega) (by omega) (lfT_step (k := 32) rfl) rfl rfl ?_
  refine v_dup fx dX8_init_658 rfl rfl ?_
  refine v_bipush fx dX8_init_659 (by decide +kernel) rfl ?_
  refine v_sipush fx dX8_init_661 (by decide +kernel) rfl ?_
  refine v_iast fx 2 (lfT mB 34) [(h0, ob 8 [.ref q_1, .null, .null, .null, .null, .null, .null, .int (iI 0), .int (iI 0), .int (iI 0), .null, .null, .int (iI 0), .null, .int (iI 0), .int (iI 0), .null, .int (iI 0), .int (iI 0), .int (iI 0), .int (iI 0), .null, .null, .null, .null, .int (iI 0), .int (iI 0), .int (iI 0), .int (iI 0), .int (iI 0), .int (iI 0)]), (q_1, aI g 64 (lfT mW 64)), (q_2, aI g 64 (lfT mB 34))] dX8_init_664 rfl (by omega) (by omega) (lfT_step (k := 33) rfl) rfl rfl ?_
  refine v_dup fx dX8_init_665 rfl rfl ?_
  refine v_bipush fx dX8_init_666 (by decide +kernel) rfl ?_
  refine v_sipush fx dX8_init_668 (by decide +kernel) rfl ?_
  refine v_iast fx 2 (lfT mB 35) [(h0, ob 8 [.ref q_1, .null, .null, .null, .null, .null, .null, .int (iI 0), .int (iI 0), .int (iI 0), .null, .null, .int (iI 0), .null, .int (iI 0), .int (iI 0), .null, .int (iI 0), .int (iI 0), .int (iI 0), .int (iI 0), .null, .null, .null, .null, .int (iI 0), .int (iI 0), .int (iI 0), .int (iI 0), .int (iI 0), .int (iI 0)]), (q_1, aI g 64 (lfT mW 64)), (q_2, aI g 64 (lfT mB 35))] dX8_init_671 rfl (by omega) (by omega) (lfT_step (k := 34) rfl) rfl rfl ?_
  refine v_dup fx dX8_init_672 rfl rfl ?_
  refine v_bipush fx dX8_init_673 (by decide +kernel) rfl ?_
  refine v_sipush fx dX8_init_675 (by decide +kernel) rfl ?_
  refine v_iast fx 2 (lfT mB 36) [(h0, ob 8 [.ref q_1, .null, .null, .null, .null, .null, .null, .int (iI 0), .int (iI 0), .int (iI 0), .null, .null, .int (iI 0), .null, .int (iI 0), .int (iI 0), .null, .int (iI 0), .int (iI 0), .int (iI 0), .int (iI 0), .null, .null, .null, .null, .int (iI 0), .int (iI 0), .int (iI 0), .int (iI 0), .int (iI 0), .int (iI 0)]), (q_1, aI g 64 (lfT mW 64)), (q_2, aI g 64 (lfT mB 36))] dX8_init_678 rfl (by omega) (by omega) (lfT_step (k := 35) rfl) rfl rfl ?_
  refine v_dup fx dX8_init_679 rfl rfl ?_
  refine v_bipush fx dX8_init_680 (by decide +kernel) rfl ?_
  refine v_sipush fx dX8_init_682 (by decide +kernel) rfl ?_
  refine v_iast fx 2 (lfT mB 37) [(h0, ob 8 [.ref q_1, .null, .null, .null, .null, .null, .null, .int (iI 0), .int (iI 0), .int (iI 0), .null, .null, .int (iI 0), .null, .int (iI 0), .int (iI 0), .null, .int (iI 0), .int (iI 0), .int (iI 0), .int (iI 0), .null, .null, .null, .null, .int (iI 0), .int (iI 0), .int (iI 0), .int (iI 0), .int (iI 0), .int (iI 0)]), (q_1, aI g 64 (lfT mW 64)), (q_2, aI g 64 (lfT mB 37))] dX8_init_685 rfl (by omega) (by omega) (lfT_step (k := 36) rfl) rfl rfl ?_
  refine v_dup fx dX8_init_686 rfl rfl ?_
  refine v_bipush fx dX8_init_687 (by decide +kernel) rfl ?_
  refine v_sipush fx dX8_init_689 (by decide +kernel) rfl ?_
  refine v_iast fx 2 (lfT mB 38) [(h0, ob 8 [.ref q_1, .null, .null, .null, .null, .null, .null, .int (iI 0), .int (iI 0), .int (iI 0), .null, .null, .int (iI 0), .null, .int (iI 0), .int (iI 0), .null, .int (iI 0), .int (iI 0), .int (iI 0), .int (iI 0), .null, .null, .null, .null, .int (iI 0), .int (iI 0), .int (iI 0), .int (iI 0), .int (iI 0), .int (iI 0)]), (q_1, aI g 64 (lfT mW 64)), (q_2, aI g 64 (lfT mB 38))] dX8_init_692 rfl (by omega) (by omega) (lfT_step (k := 37) rfl) rfl rfl ?_
  refine v_dup fx dX8_init_693 rfl rfl ?_
  refine v_bipush fx dX8_init_694 (by decide +kernel) rfl ?_
  refine v_sipush fx dX8_init_696 (by decide +kernel) rfl ?_
  refine v_iast fx 2 (lfT mB 39) [(h0, ob 8 [.ref q_1, .null, .null, .null, .null, .null, .null, .int (iI 0), .int (iI 0), .int (iI 0), .null, .null, .int (iI 0), .null, .int (iI 0), .int (iI 0), .null, .int (iI 0), .int (iI 0), .int (iI 0), .int (iI 0), .null, .null, .null, .null, .int (iI 0), .int (iI 0), .int (iI 0), .int (iI 0), .int (iI 0), .int (iI 0)]), (q_1, aI g 64 (lfT mW 64)), (q_2, aI g 64 (lfT mB 39))] dX8_init_699 rfl (by omega) (by omega) (lfT_step (k := 38) rfl) rfl rfl ?_
  refine v_dup fx dX8_init_700 rfl rfl ?_
  refine v_bipush fx dX8_init_701 (by decide +kernel) rfl ?_
  refine v_sipush fx dX8_init_703 (by decide +kernel) rfl ?_
  refine v_iast fx 2 (lfT mB 40) [(h0, ob 8 [.ref q_1, .null, .null, .null, .null, .null, .null, .int (iI 0), .int (iI 0), .int (iI 0), .null, .null, .int (iI 0), .null, .int (iI 0), .int (iI 0), .null, .int (iI 0), .int (iI 0), .int (iI 0), .int (iI 0), .null, .null, .null, .null, .int (iI 0), .int (iI 0), .int (iI 0), .int (iI 0), .int (iI 0), .int (iI 0)]), (q_1, aI g 64 (lfT mW 64)), (q_2, aI g 64 (lfT mB 40))] dX8_init_706 rfl (by omega) (by omega) (lfT_step (k := 39) rfl) rfl rfl ?_
  refine v_dup fx dX8_init_707 rfl rfl ?_
  refine v_bipush fx dX8_init_708 (by decide +kernel) rfl ?_
  refine v_sipush fx dX8_init_710 (by decide +kernel) rfl ?_
  refine v_iast fx 2 (lfT mB 41) [(h0, ob 8 [.ref q_1, .null, .null, .null, .null, .null, .null, .int (iI 0), .int (iI 0), .int (iI 0), .null, .null, .int (iI 0), .null, .int (iI 0), .int (iI 0), .null, .int (iI 0), .int (iI 0), .int (iI 0), .int (iI 0), .null, .null, .null, .null, .int (iI 0), .int (iI 0), .int (iI 0), .int (iI 0), .int (iI 0), .int (iI 0)]), (q_1, aI g 64 (lfT mW 64)), (q_2, aI g 64 (lfT mB 41))] dX8_init_713 rfl (by omega) (by omega) (lfT_step (k := 40) rfl) rfl rfl ?_
  refine v_dup fx dX8_init_714 rfl rfl ?_
  refine v_bipush fx dX8_init_715 (by decide +kernel) rfl ?_
  refine v_sipush fx dX8_init_717 (by decide +kernel) rfl ?_
  refine v_iast fx 2 (lfT mB 42) [(h0, ob 8 [.ref q_1, .null, .null, .null, .null, .null, .null, .int (iI 0), .int (iI 0), .int (iI 0), .null, .null, .int (iI 0), .null, .int (iI 0), .int (iI 0), .null, .int (iI 0), .int (iI 0), .int (iI 0), .int (iI 0), .null, .null, .null, .null, .int (iI 0), .int (iI 0), .int (iI 0), .int (iI 0), .int (iI 0), .int (iI 0)]), (q_1, aI g 64 (lfT mW 64)), (q_2, aI g 64 (lfT mB 42))] dX8_init_720 rfl (by omega) (by omega) (lfT_step (k := 41) rfl) rfl rfl ?_
  refine v_dup fx dX8_init_721 rfl rfl ?_
  refine v_bipush fx dX8_init_722 (by decide +kernel) rfl ?_
  refine v_sipush fx dX8_init_724 (by decide +kernel) rfl ?_
  refine v_iast fx 2 (lfT mB 43) [(h0, ob 8 [.ref q_1, .null, .null, .null, .null, .null, .null, .int (iI 0), .int (iI 0), .int (iI 0), .null, .null, .int (iI 0), .null, .int (iI 0), .int (iI 0), .null, .int (iI 0), .int (iI 0), .int (iI 0), .int (iI 0), .null, .null, .null, .null, .int (iI 0), .int (iI 0), .int (iI 0), .int (iI 0), .int (iI 0), .int (iI 0)]), (q_1, aI g 64 (lfT mW 64)), (q_2, aI g 64 (lfT mB 43))] dX8_init_727 rfl (by omega) (by omega) (lfT_step (k := 42) rfl) rfl rfl ?_
  refine v_dup fx dX8_init_728 rfl rfl ?_
  refine v_bipush fx dX8_init_729 (by decide +kernel) rfl ?_
  refine v_sipush fx dX8_init_731 (by decide +kernel) rfl ?_
  refine v_iast fx 2 (lfT mB 44) [(h0, ob 8 [.ref q_1, .null, .null, .null, .null, .null, .null, .int (iI 0), .int (iI 0), .int (iI 0), .null, .null, .int (iI 0), .null, .int (iI 0), .int (iI 0), .null, .int (iI 0), .int (iI 0), .int (iI 0), .int (iI 0), .null, .null, .null, .null, .int (iI 0), .int (iI 0), .int (iI 0), .int (iI 0), .int (iI 0), .int (iI 0)]), (q_1, aI g 64 (lfT mW 64)), (q_2, aI g 64 (lfT mB 44))] dX8_init_734 rfl (by omega) (by omega) (lfT_step (k := 43) rfl) rfl rfl ?_
  refine v_dup fx dX8_init_735 rfl rfl ?_
  refine v_bipush fx dX8_init_736 (by decide +kernel) rfl ?_
  refine v_sipush fx dX8_init_738 (by decide +kernel) rfl ?_
  refine v_iast fx 2 (lfT mB 45) [(h0, ob 8 [.ref q_1, .null, .null, .null, .null, .null, .null, .int (iI 0), .int (iI 0), .int (iI 0), .null, .null, .int (iI 0), .null, .int (iI 0), .int (iI 0), .null, .int (iI 0), .int (iI 0), .int (iI 0), .int (iI 0), .null, .null, .null, .null, .int (iI 0), .int (iI 0), .int (iI 0), .int (iI 0), .int (iI 0), .int (iI 0)]), (q_1, aI g 64 (lfT mW 64)), (q_2, aI g 64 (lfT mB 45))] dX8_init_741 rfl (by omega) (by omega) (lfT_step (k := 44) rfl) rfl rfl ?_
  refine v_dup fx dX8_init_742 rfl rfl ?_
  refine v_bipush fx dX8_init_743 (by decide +kernel) rfl ?_
  refine v_sipush fx dX8_init_745 (by decide +kernel) rfl ?_
  refine v_iast fx 2 (lfT mB 46) [(h0, ob 8 [.ref q_1, .null, .null, .null, .null, .null, .null, .int (iI 0), .int (iI 0), .int (iI 0), .null, .null, .int (iI 0), .null, .int (iI 0), .int (iI 0), .null, .int (iI 0), .int (iI 0), .int (iI 0), .int (iI 0), .null, .null, .null, .null, .int (iI 0), .int (iI 0), .int (iI 0), .int (iI 0), .int (iI 0), .int (iI 0)]), (q_1, aI g 64 (lfT mW 64)), (q_2, aI g 64 (lfT mB 46))] dX8_init_748 rfl (by omega) (by omega) (lfT_step (k := 45) rfl) rfl rfl ?_
  refine v_dup fx dX8_init_749 rfl rfl ?_
  refine v_bipush fx dX8_init_750 (by decide +kernel) rfl ?_
  refine v_sipush fx dX8_init_752 (by decide +kernel) rfl ?_
  refine v_iast fx 2 (lfT mB 47) [(h0, ob 8 [.ref q_1, .null, .null, .null, .null, .null, .null, .int (iI 0), .int (iI 0), .int (iI 0), .null, .null, .int (iI 0), .null, .int (iI 0), .int (iI 0), .null, .int (iI 0), .int (iI 0), .int (iI 0), .int (iI 0), .null, .null, .null, .null, .int (iI 0), .int (iI 0), .int (iI 0), .int (iI 0), .int (iI 0), .int (iI 0)]), (q_1, aI g 64 (lfT mW 64)), (q_2, aI g 64 (lfT mB 47))] dX8_init_755 rfl (by omega) (by omega) (lfT_step (k := 46) rfl) rfl rfl ?_
  refine v_dup fx dX8_init_756 rfl rfl ?_
  refine v_bipush fx dX8_init_757 (by decide +kernel) rfl ?_
  refine v_sipush fx dX8_init_759 (by decide +kernel) rfl ?_
  refine v_iast fx 2 (lfT mB 48) [(h0, ob 8 [.ref q_1, .null, .null, .null, .null, .null, .null, .int (iI 0), .int (iI 0), .int (iI 0), .null, .null, .int (iI 0), .null, .int (iI 0), .int (iI 0), .null, .int (iI 0), .int (iI 0), .int (iI 0), .int (iI 0), .null, .null, .null, .null, .int (iI 0), .int (iI 0), .int (iI 0), .int (iI 0), .int (iI 0), .int (iI 0)]), (q_1, aI g 64 (lfT mW 64)), (q_2, aI g 64 (lfT mB 48))] dX8_init_762 rfl (by omega) (by omega) (lfT_step (k := 47) rfl) rfl rfl ?_
  refine v_dup fx dX8_init_763 rfl rfl ?_
  refine v_bipush fx dX8_init_764 (by decide +kernel) rfl ?_
  refine v_sipush fx dX8_init_766 (by decide +kernel) rfl ?_
  refine v_iast fx 2 (lfT mB 49) [(h0, ob 8 [.ref q_1, .null, .null, .null, .null, .null, .null, .int (iI 0), .int (iI 0), .int (iI 0), .null, .null, .int (iI 0), .null, .int (iI 0), .int (iI 0), .null, .int (iI 0), .int (iI 0), .int (iI 0), .int (iI 0), .null, .null, .null, .null, .int (iI 0), .int (iI 0), .int (iI 0), .int (iI 0), .int (iI 0), .int (iI 0)]), (q_1, aI g 64 (lfT mW 64)), (q_2, aI g 64 (lfT mB 49))] dX8_init_769 rfl (by omega) (by omega) (lfT_step (k := 48) rfl) rfl rfl ?_
  refine v_dup fx dX8_init_770 rfl rfl ?_
  refine v_bipush fx dX8_init_771 (by decide +kernel) rfl ?_
  refine v_sipush fx dX8_init_773 (by decide +kernel) rfl ?_
  refine v_iast fx 2 (lfT mB 50) [(h0, ob 8 [.ref q_1, .null, .null, .null, .null, .null, .null, .int (iI 0), .int (iI 0), .int (iI 0), .null, .null, .int (iI 0), .null, .int (iI 0), .int (iI 0), .null, .int (iI 0), .int (iI 0), .int (iI 0), .int (iI 0), .null, .null, .null, .null, .int (iI 0), .int (iI 0), .int (iI 0), .int (iI 0), .int (iI 0), .int (iI 0)]), (q_1, aI g 64 (lfT mW 64)), (q_2, aI g 64 (lfT mB 50))] dX8_init_776 rfl (by omega) (by omega) (lfT_step (k := 49) rfl) rfl rfl ?_
  refine v_dup fx dX8_init_777 rfl rfl ?_
  refine v_bipush fx dX8_init_778 (by decide +kernel) rfl ?_
  refine v_sipush fx dX8_init_780 (by decide +kernel) rfl ?_
  refine v_iast fx 2 (lfT mB 51) [(h0, ob 8 [.ref q_1, .null, .null, .null, .null, .null, .null, .int (iI 0), .int (iI 0), .int (iI 0), .null, .null, .int (iI 0), .null, .int (iI 0), .int (iI 0), .null, .int (iI 0), .int (iI 0), .int (iI 0), .int (iI 0), .null, .null, .null, .null, .int (iI 0), .int (iI 0), .int (iI 0), .int (iI 0), .int (iI 0), .int (iI 0)]), (q_1, aI g 64 (lfT mW 64)), (q_2, aI g 64 (lfT mB 51))] dX8_init_783 rfl (by omega) (by omega) (lfT_step (k := 50) rfl) rfl rfl ?_
  refine v_dup fx dX8_init_784 rfl rfl ?_
  refine v_bipush fx dX8_init_785 (by decide +kernel) rfl ?_
  refine v_sipush fx dX8_init_787 (by decide +kernel) rfl ?_
  refine v_iast fx 2 (lfT mB 52) [(h0, ob 8 [.ref q_1, .null, .null, .null, .null, .null, .null, .int (iI 0), .int (iI 0), .int (iI 0), .null, .null, .int (iI 0), .null, .int (iI 0), .int (iI 0), .null, .int (iI 0), .int (iI 0), .int (iI 0), .int (iI 0), .null, .null, .null, .null, .int (iI 0), .int (iI 0), .int (iI 0), .int (iI 0), .int (iI 0), .int (iI 0)]), (q_1, aI g 64 (lfT mW 64)), (q_2, aI g 64 (lfT mB 52))] dX8_init_790 rfl (by omega) (by omega) (lfT_step (k := 51) rfl) rfl rfl ?_
  refine v_dup fx dX8_init_791 rfl rfl ?_
  refine v_bipush fx dX8_init_792 (by decide +kernel) rfl ?_
  refine v_sipush fx dX8_init_794 (by decide +kernel) rfl ?_
  refine v_iast fx 2 (lfT mB 53) [(h0, ob 8 [.ref q_1, .null, .null, .null, .null, .null, .null, .int (iI 0), .int (iI 0), .int (iI 0), .null, .null, .int (iI 0), .null, .int (iI 0), .int (iI 0), .null, .int (iI 0), .int (iI 0), .int (iI 0), .int (iI 0), .null, .null, .null, .null, .int (iI 0), .int (iI 0), .int (iI 0), .int (iI 0), .int (iI 0), .int (iI 0)]), (q_1, aI g 64 (lfT mW 64)), (q_2, aI g 64 (lfT mB 53))] dX8_init_797 rfl (by omega) (by omega) (lfT_step (k := 52) rfl) rfl rfl ?_
  refine v_dup fx dX8_init_798 rfl rfl ?_
  refine v_bipush fx dX8_init_799 (by decide +kernel) rfl ?_
  refine v_sipush fx dX8_init_801 (by decide +kernel) rfl ?_
  refine v_iast fx 2 (lfT mB 54) [(h0, ob 8 [.ref q_1, .null, .null, .null, .null, .null, .null, .int (iI 0), .int (iI 0), .int (iI 0), .null, .null, .int (iI 0), .null, .int (iI 0), .int (iI 0), .null, .int (iI 0), .int (iI 0), .int (iI 0), .int (iI 0), .null, .null, .null, .null, .int (iI 0), .int (iI 0), .int (iI 0), .int (iI 0), .int (iI 0), .int (iI 0)]), (q_1, aI g 64 (lfT mW 64)), (q_2, aI g 64 (lfT mB 54))] dX8_init_804 rfl (by omega) (by omega) (lfT_step (k := 53) rfl) rfl rfl ?_
  refine v_dup fx dX8_init_805 rfl rfl ?_
  refine v_bipush fx dX8_init_806 (by decide +kernel) rfl ?_
  refine v_sipush fx dX8_init_808 (by decide +kernel) rfl ?_
  refine v_iast fx 2 (lfT mB 55) [(h0, ob 8 [.ref q_1, .null, .null, .null, .null, .null, .null, .int (iI 0), .int (iI 0), .int (iI 0), .null, .null, .int (iI 0), .null, .int (iI 0), .int (iI 0), .null, .int (iI 0), .int (iI 0), .int (iI 0), .int (iI 0), .null, .null, .null, .null, .int (iI 0), .int (iI 0), .int (iI 0), .int (iI 0), .int (iI 0), .int (iI 0)]), (q_1, aI g 64 (lfT mW 64)), (q_2, aI g 64 (lfT mB 55))] dX8_init_811 rfl (by omega) (by omega) (lfT_step (k := 54) rfl) rfl rfl ?_
  refine v_dup fx dX8_init_812 rfl rfl ?_
  refine v_bipush fx dX8_init_813 (by decide +kernel) rfl ?_
  refine v_sipush fx dX8_init_815 (by decide +kernel) rfl ?_
  refine v_iast fx 2 (lfT mB 56) [(h0, ob 8 [.ref q_1, .null, .null, .null, .null, .null, .null, .int (iI 0), .int (iI 0), .int (iI 0), .null, .null, .int (iI 0), .null, .int (iI 0), .int (iI 0), .null, .int (iI 0), .int (iI 0), .int (iI 0), .int (iI 0), .null, .null, .null, .null, .int (iI 0), .int (iI 0), .int (iI 0), .int (iI 0), .int (iI 0), .int (iI 0)]), (q_1, aI g 64 (lfT mW 64)), (q_2, aI g 64 (lfT mB 56))] dX8_init_818 rfl (by omega) (by omega) (lfT_step (k := 55) rfl) rfl rfl ?_
  refine v_dup fx dX8_init_819 rfl rfl ?_
  refine v_bipush fx dX8_init_820 (by decide +kernel) rfl ?_
  refine v_sipush fx dX8_init_822 (by decide +kernel) rfl ?_
  refine v_iast fx 2 (lfT mB 57) [(h0, ob 8 [.ref q_1, .null, .null, .null, .null, .null, .null, .int (iI 0), .int (iI 0), .int (iI 0), .null, .null, .int (iI 0), .null, .int (iI 0), .int (iI 0), .null, .int (iI 0), .int (iI 0), .int (iI 0), .int (iI 0), .null, .null, .null, .null, .int (iI 0), .int (iI 0), .int (iI 0), .int (iI 0), .int (iI 0), .int (iI 0)]), (q_1, aI g 64 (lfT mW 64)), (q_2, aI g 64 (lfT mB 57))] dX8_init_825 rfl (by omega) (by omega) (lfT_step (k := 56) rfl) rfl rfl ?_
  refine v_dup fx dX8_init_826 rfl rfl ?_
  refine v_bipush fx dX8_init_827 (by decide +kernel) rfl ?_
  refine v_sipush fx dX8_init_829 (by decide +kernel) rfl ?_
  refine v_iast fx 2 (lfT mB 58) [(h0, ob 8 [.ref q_1, .null, .null, .null, .null, .null, .null, .int (iI 0), .int (iI 0), .int (iI 0), .null, .null, .int (iI 0), .null, .int (iI 0), .int (iI 0), .null, .int (iI 0), .int (iI 0), .int (iI 0), .int (iI 0), .null, .null, .null, .null, .int (iI 0), .int (iI 0), .int (iI 0), .int (iI 0), .int (iI 0), .int (iI 0)]), (q_1, aI g 64 (lfT mW 64)), (q_2, aI g 64 (lfT mB 58))] dX8_init_832 rfl (by omega) (by omega) (lfT_step (k := 57) rfl) rfl rfl ?_
  refine v_dup fx dX8_init_833 rfl rfl ?_
  refine v_bipush fx dX8_init_834 (by decide +kernel) rfl ?_
  refine v_sipush fx dX8_init_836 (by decide +kernel) rfl ?_
  refine v_iast fx 2 (lfT mB 59) [(h0, ob 8 [.ref q_1, .null, .null, .null, .null, .null, .null, .int (iI 0), .int (iI 0), .int (iI 0), .null, .null, .int (iI 0), .null, .int (iI 0), .int (iI 0), .null, .int (iI 0), .int (iI 0), .int (iI 0), .int (iI 0), .null, .null, .null, .null, .int (iI 0), .int (iI 0), .int (iI 0), .int (iI 0), .int (iI 0), .int (iI 0)]), (q_1, aI g 64 (lfT mW 64)), (q_2, aI g 64 (lfT mB 59))] dX8_init_839 rfl (by omega) (by omega) (lfT_step (k := 58) rfl) rfl rfl ?_
  refine v_dup fx dX8_init_840 rfl rfl ?_
  refine v_bipush fx dX8_init_841 (by decide +kernel) rfl ?_
  refine v_sipush fx dX8_init_843 (by decide +kernel) rfl ?_
  refine v_iast fx 2 (lfT mB 60) [(h0, ob 8 [.ref q_1, .null, .null, .null, .null, .null, .null, .int (iI 0), .int (iI 0), .int (iI 0), .null, .null, .int (iI 0), .null, .int (iI 0), .int (iI 0), .null, .int (iI 0), .int (iI 0), .int (iI 0), .int (iI 0), .null, .null, .null, .null, .int (iI 0), .int (iI 0), .int (iI 0), .int (iI 0), .int (iI 0), .int (iI 0)]), (q_1, aI g 64 (lfT mW 64)), (q_2, aI g 64 (lfT mB 60))] dX8_init_846 rfl (by omega) (by omega) (lfT_step (k := 59) rfl) rfl rfl ?_
  refine v_dup fx dX8_init_847 rfl rfl ?_
  refine v_bipush fx dX8_init_848 (by decide +kernel) rfl ?_
  refine v_sipush fx dX8_init_850 (by decide +kernel) rfl ?_
  refine v_iast fx 2 (lfT mB 61) [(h0, ob 8 [.ref q_1, .null, .null, .null, .null, .null, .null, .int (iI 0), .int (iI 0), .int (iI 0), .null, .null, .int (iI 0), .null, .int (iI 0), .int (iI 0), .null, .int (iI 0), .int (iI 0), .int (iI 0), .int (iI 0), .null, .null, .null, .null, .int (iI 0), .int (iI 0), .int (iI 0), .int (iI 0), .int (iI 0), .int (iI 0)]), (q_1, aI g 64 (lfT mW 64)), (q_2, aI g 64 (lfT mB 61))] dX8_init_853 rfl (by omega) (by omega) (lfT_step (k := 60) rfl) rfl rfl ?_
  refine v_dup fx dX8_init_854 rfl rfl ?_
  refine v_bipush fx dX8_init_855 (by decide +kernel) rfl ?_
  refine v_sipush fx dX8_init_857 (by decide +kernel) rfl ?_
  refine v_iast fx 2 (lfT mB 62) [(h0, ob 8 [.ref q_1, .null, .null, .null, .null, .null, .null, .int (iI 0), .int (iI 0), .int (iI 0), .null, .null, .int (iI 0), .null, .int (iI 0), .int (iI 0), .null, .int (iI 0), .int (iI 0), .int (iI 0), .int (iI 0), .null, .null, .null, .null, .int (iI 0), .int (iI 0), .int (iI 0), .int (iI 0), .int (iI 0), .int (iI 0)]), (q_1, aI g 64 (lfT mW 64)), (q_2, aI g 64 (lfT mB 62))] dX8_init_860 rfl (by omega) (by omega) (lfT_step (k := 61) rfl) rfl rfl ?_
  refine v_dup fx dX8_init_861 rfl rfl ?_
  refine v_bipush fx dX8_init_862 (by decide +kernel) rfl ?_
  refine v_sipush fx dX8_init_864 (by decide +kernel) rfl ?_
  refine v_iast fx 2 (lfT mB 63) [(h0, ob 8 [.ref q_1, .null, .null, .null, .null, .null, .null, .int (iI 0), .int (iI 0), .int (iI 0), .null, .null, .int (iI 0), .null, .int (iI 0), .int (iI 0), .null, .int (iI 0), .int (iI 0), .int (iI 0), .int (iI 0), .null, .null, .null, .null, .int (iI 0), .int (iI 0), .int (iI 0), .int (iI 0), .int (iI 0), .int (iI 0)]), (q_1, aI g 64 (lfT mW 64)), (q_2, aI g 64 (lfT mB 63))] dX8_init_867 rfl (by omega) (by omega) (lfT_step (k := 62) rfl) rfl rfl ?_
  refine v_dup fx dX8_init_868 rfl rfl ?_
  refine v_bipush fx dX8_init_869 (by decide +kernel) rfl ?_
  refine v_sipush fx dX8_init_871 (by decide +kernel) rfl ?_
  refine v_iast fx 2 (lfT mB 64) [(h0, ob 8 [.ref q_1, .null, .null, .null, .null, .null, .null, .int (iI 0), .int (iI 0), .int (iI 0), .null, .null, .int (iI 0), .null, .int (iI 0), .int (iI 0), .null, .int (iI 0), .int (iI 0), .int (iI 0), .int (iI 0), .null, .null, .null, .null, .int (iI 0), .int (iI 0), .int (iI 0), .int (iI 0), .int (iI 0), .int (iI 0)]), (q_1, aI g 64 (lfT mW 64)), (q_2, aI g 64 (lfT mB 64))] dX8_init_874 rfl (by omega) (by omega) (lfT_step (k := 63) rfl) rfl rfl ?_
  refine v_putF fx 0 1 [(h0, ob 8 [.ref q_1, .ref q_2, .null, .null, .null, .null, .null, .int (iI 0), .int (iI 0), .int (iI 0), .null, .null, .int (iI 0), .null, .int (iI 0), .int (iI 0), .null, .int (iI 0), .int (iI 0), .int (iI 0), .int (iI 0), .null, .null, .null, .null, .int (iI 0), .int (iI 0), .int (iI 0), .int (iI 0), .int (iI 0), .int (iI 0)]), (q_1, aI g 64 (lfT mW 64)), (q_2, aI g 64 (lfT mB 64))] hnm inX8 tyX8_ok nmX8 k997 dX8_init_875 rfl rfl (by decide) rfl rfl rfl rfl rfl (nl rfl) rfl rfl ?_
  refine v_aload_n fx 0 dX8_init_878 rfl rfl ?_
  refine v_bipush fx dX8_init_879 (by decide +kernel) rfl ?_
  refine v_newa fx 0 .int 27 (27, .inl (fun _ => 0)) 3 155 k98 dX8_init_881 rfl rfl rfl (by omega) rfl (fun cA => arr0_int cA _) (by decide) (nl rfl) (nl rfl) rfl rfl rfl (fun q_3 => ?_)
  refine v_is (wn := [(h0, ob 8 [.ref q_1, .ref q_2, .null, .null, .null, .null, .null, .int (iI 0), .int (iI 0), .int (iI 0), .null, .null, .int (iI 0), .null, .int (iI 0), .int (iI 0), .null, .int (iI 0), .int (iI 0), .int (iI 0), .int (iI 0), .null, .null, .null, .null, .int (iI 0), .int (iI 0), .int (iI 0), .int (iI 0), .int (iI 0), .int (iI 0)]), (q_1, aI g 64 (lfT mW 64)), (q_2, aI g 64 (lfT mB 64)), (q_3, aI g 27 (fun _ => 0))]) (cn := 3) (sn := 155) (sn2 := [.ref q_3, .ref h0]) rfl rfl rfl rfl ?_
  refine v_dup fx dX8_init_883 rfl rfl ?_
  refine v_iconst fx dX8_init_884 rfl ?_
  refine v_bipush fx dX8_init_885 (by decide +kernel) rfl ?_
  refine v_iast fx 3 (lfT mWM 1) [(h0, ob 8 [.ref q_1, .ref q_2, .null, .null, .null, .null, .null, .int (iI 0), .int (iI 0), .int (iI 0), .null, .null, .int (iI 0), .null, .int (iI 0), .int (iI 0), .null, .int (iI 0), .int (iI 0), .int (iI 0), .int (iI 0), .null, .null, .null, .null, .int (iI 0), .int (iI 0), .int (iI 0), .int (iI 0), .int (iI 0), .int (iI 0)]), (q_1, aI g 64 (lfT mW 64)), (q_2, aI g 64 (lfT mB 64)), (q_3, aI g 27 (lfT mWM 1))] dX8_init_887 rfl (by omega) (by omega) (lfT_first rfl) rfl rfl ?_
  refine v_dup fx dX8_init_888 rfl rfl ?_
  refine v_iconst fx dX8_init_889 rfl ?_
  refine v_bipush fx dX8_init_890 (by decide +kernel) rfl ?_
  refine v_iast fx 3 (lfT mWM 2) [(h0, ob 8 [.ref q_1, .ref q_2, .null, .null, .null, .null, .null, .int (iI 0), .int (iI 0), .int (iI 0), .null, .null, .int (iI 0), .null, .int (iI 0), .int (iI 0), .null, .int (iI 0), .int (iI 0), .int (iI 0), .int (iI 0), .null, .null, .null, .null, .int (iI 0), .int (iI 0), .int (iI 0), .int (iI 0), .int (iI 0), .int (iI 0)]), (q_1, aI g 64 (lfT mW 64)), (q_2, aI g 64 (lfT mB 64)), (q_3, aI g 27 (lfT mWM 2))] dX8_init_892 rfl (by omega) (by omega) (lfT_step (k := 1) rfl) rfl rfl ?_
  refine v_dup fx dX8_init_893 rfl rfl ?_
  refine v_iconst fx dX8_init_894 rfl ?_
  refine v_bipush fx dX8_init_895 (by decide +kernel) rfl ?_
  refine v_iast fx 3 (lfT mWM 3) [(h0, ob 8 [.ref q_1, .ref q_2, .null, .null, .null, .null, .null, .int (iI 0), .int (iI 0), .int (iI 0), .null, .null, .int (iI 0), .null, .int (iI 0), .int (iI 0), .null, .int (iI 0), .int (iI 0), .int (iI 0), .int (iI 0), .null, .null, .null, .null, .int (iI 0), .int (iI 0), .int (iI 0), .int (iI 0), .int (iI 0), .int (iI 0)]), (q_1, aI g 64 (lfT mW 64)), (q_2, aI g 64 (lfT mB 64)), (q_3, aI g 27 (lfT mWM 3))] dX8_init_897 rfl (by omega) (by omega) (lfT_step (k := 2) rfl) rfl rfl ?_
  refine v_dup fx dX8_init_898 rfl rfl ?_
  refine v_iconst fx dX8_init_899 rfl ?_
  refine v_sipush fx dX8_init_900 (by decide +kernel) rfl ?_
  refine v_iast fx 3 (lfT mWM 4) [(h0, ob 8 [.ref q_1, .ref q_2, .null, .null, .null, .null, .null, .int (iI 0), .int (iI 0), .int (iI 0), .null, .null, .int (iI 0), .null, .int (iI 0), .int (iI 0), .null, .int (iI 0), .int (iI 0), .int (iI 0), .int (iI 0), .null, .null, .null, .null, .int (iI 0), .int (iI 0), .int (iI 0), .int (iI 0), .int (iI 0), .int (iI 0)]), (q_1, aI g 64 (lfT mW 64)), (q_2, aI g 64 (lfT mB 64)), (q_3, aI g 27 (lfT mWM 4))] dX8_init_903 rfl (by omega) (by omega) (lfT_step (k := 3) rfl) rfl rfl ?_
  refine v_dup fx dX8_init_904 rfl rfl ?_
  refine v_iconst fx dX8_init_905 rfl ?_
  refine v_sipush fx dX8_init_906 (by decide +kernel) rfl ?_
  refine v_iast fx 3 (lfT mWM 5) [(h0, ob 8 [.ref q_1, .ref q_2, .null, .null, .null, .null, .null, .int (iI 0), .int (iI 0), .int (iI 0), .null, .null, .int (iI 0), .null, .int (iI 0), .int (iI 0), .null, .int (iI 0), .int (iI 0), .int (iI 0), .int (iI 0), .null, .null, .null, .null, .int (iI 0), .int (iI 0), .int (iI 0), .int (iI 0), .int (iI 0), .int (iI 0)]), (q_1, aI g 64 (lfT mW 64)), (q_2, aI g 64 (lfT mB 64)), (q_3, aI g 27 (lfT mWM 5))] dX8_init_909 rfl (by omega) (by omega) (lfT_step (k := 4) rfl) rfl rfl ?_
  refine v_dup fx dX8_init_910 rfl rfl ?_
  refine v_iconst fx dX8_init_911 rfl ?_
  refine v_sipush fx dX8_init_912 (by decide +kernel) rfl ?_
  refine v_iast fx 3 (lfT mWM 6) [(h0, ob 8 [.ref q_1, .ref q_2, .null, .null, .null, .null, .null, .int (iI 0), .int (iI 0), .int (iI 0), .null, .null, .int (iI 0), .null, .int (iI 0), .int (iI 0), .null, .int (iI 0), .int (iI 0), .int (iI 0), .int (iI 0), .null, .null, .null, .null, .int (iI 0), .int (iI 0), .int (iI 0), .int (iI 0), .int (iI 0), .int (iI 0)]), (q_1, aI g 64 (lfT mW 64)), (q_2, aI g 64 (lfT mB 64)), (q_3, aI g 27 (lfT mWM 6))] dX8_init_915 rfl (by omega) (by omega) (lfT_step (k := 5) rfl) rfl rfl ?_
  refine v_dup fx dX8_init_916 rfl rfl ?_
  refine v_bipush fx dX8_init_917 (by decide +kernel) rfl ?_
  refine v_sipush fx dX8_init_919 (by decide +kernel) rfl ?_
  refine v_iast fx 3 (lfT mWM 7) [(h0, ob 8 [.ref q_1, .ref q_2, .null, .null, .null, .null, .null, .int (iI 0), .int (iI 0), .int (iI 0), .null, .null, .int (iI 0), .null, .int (iI 0), .int (iI 0), .null, .int (iI 0), .int (iI 0), .int (iI 0), .int (iI 0), .null, .null, .null, .null, .int (iI 0), .int (iI 0), .int (iI 0), .int (iI 0), .int (iI 0), .int (iI 0)]), (q_1, aI g 64 (lfT mW 64)), (q_2, aI g 64 (lfT mB 64)), (q_3, aI g 27 (lfT mWM 7))] dX8_init_922 rfl (by omega) (by omega) (lfT_step (k := 6) rfl) rfl rfl ?_
  refine v_dup fx dX8_init_923 rfl rfl ?_
  refine v_bipush fx dX8_init_924 (by decide +kernel) rfl ?_
  refine v_sipush fx dX8_init_926 (by decide +kernel) rfl ?_
  refine v_iast fx 3 (lfT mWM 8) [(h0, ob 8 [.ref q_1, .ref q_2, .null, .null, .null, .null, .null, .int (iI 0), .int (iI 0), .int (iI 0), .null, .null, .int (iI 0), .null, .int (iI 0), .int (iI 0), .null, .int (iI 0), .int (iI 0), .int (iI 0), .int (iI 0), .null, .null, .null, .null, .int (iI 0), .int (iI 0), .int (iI 0), .int (iI 0), .int (iI 0), .int (iI 0)]), (q_1, aI g 64 (lfT mW 64)), (q_2, aI g 64 (lfT mB 64)), (q_3, aI g 27 (lfT mWM 8))] dX8_init_929 rfl (by omega) (by omega) (lfT_step (k := 7) rfl) rfl rfl ?_
  refine v_dup fx dX8_init_930 rfl rfl ?_
  refine v_bipush fx dX8_init_931 (by decide +kernel) rfl ?_
  refine v_sipush fx dX8_init_933 (by decide +kernel) rfl ?_
  refine v_iast fx 3 (lfT mWM 9) [(h0, ob 8 [.ref q_1, .ref q_2, .null, .null, .null, .null, .null, .int (iI 0), .int (iI 0), .int (iI 0), .null, .null, .int (iI 0), .null, .int (iI 0), .int (iI 0), .null, .int (iI 0), .int (iI 0), .int (iI 0), .int (iI 0), .null, .null, .null, .null, .int (iI 0), .int (iI 0), .int (iI 0), .int (iI 0), .int (iI 0), .int (iI 0)]), (q_1, aI g 64 (lfT mW 64)), (q_2, aI g 64 (lfT mB 64)), (q_3, aI g 27 (lfT mWM 9))] dX8_init_936 rfl (by omega) (by omega) (lfT_step (k := 8) rfl) rfl rfl ?_
  refine v_dup fx dX8_init_937 rfl rfl ?_
  refine v_bipush fx dX8_init_938 (by decide +kernel) rfl ?_
  refine v_sipush fx dX8_init_940 (by decide +kernel) rfl ?_
  refine v_iast fx 3 (lfT mWM 10) [(h0, ob 8 [.ref q_1, .ref q_2, .null, .null, .null, .null, .null, .int (iI 0), .int (iI 0), .int (iI 0), .null, .null, .int (iI 0), .null, .int (iI 0), .int (iI 0), .null, .int (iI 0), .int (iI 0), .int (iI 0), .int (iI 0), .null, .null, .null, .null, .int (iI 0), .int (iI 0), .int (iI 0), .int (iI 0), .int (iI 0), .int (iI 0)]), (q_1, aI g 64 (lfT mW 64)), (q_2, aI g 64 (lfT mB 64)), (q_3, aI g 27 (lfT mWM 10))] dX8_init_943 rfl (by omega) (by omega) (lfT_step (k := 9) rfl) rfl rfl ?_
  refine v_dup fx dX8_init_944 rfl rfl ?_
  refine v_bipush fx dX8_init_945 (by decide +kernel) rfl ?_
  refine v_sipush fx dX8_init_947 (by decide +kernel) rfl ?_
  refine v_iast fx 3 (lfT mWM 11) [(h0, ob 8 [.ref q_1, .ref q_2, .null, .null, .null, .null, .null, .int (iI 0), .int (iI 0), .int (iI 0), .null, .null, .int (iI 0), .null, .int (iI 0), .int (iI 0), .null, .int (iI 0), .int (iI 0), .int (iI 0), .int (iI 0), .null, .null, .null, .null, .int (iI 0), .int (iI 0), .int (iI 0), .int (iI 0), .int (iI 0), .int (iI 0)]), (q_1, aI g 64 (lfT mW 64)), (q_2, aI g 64 (lfT mB 64)), (q_3, aI g 27 (lfT mWM 11))] dX8_init_950 rfl (by omega) (by omega) (lfT_step (k := 10) rfl) rfl rfl ?_
  refine v_dup fx dX8_init_951 rfl rfl ?_
  refine v_bipush fx dX8_init_952 (by decide +kernel) rfl ?_
  refine v_sipush fx dX8_init_954 (by decide +kernel) rfl ?_
  refine v_iast fx 3 (lfT mWM 12) [(h0, ob 8 [.ref q_1, .ref q_2, .null, .null, .null, .null, .null, .int (iI 0), .int (iI 0), .int (iI 0), .null, .null, .int (iI 0), .null, .int (iI 0), .int (iI 0), .null, .int (iI 0), .int (iI 0), .int (iI 0), .int (iI 0), .null, .null, .null, .null, .int (iI 0), .int (iI 0), .int (iI 0), .int (iI 0), .int (iI 0), .int (iI 0)]), (q_1, aI g 64 (lfT mW 64)), (q_2, aI g 64 (lfT mB 64)), (q_3, aI g 27 (lfT mWM 12))] dX8_init_957 rfl (by omega) (by omega) (lfT_step (k := 11) rfl) rfl rfl ?_
  refine v_dup fx dX8_init_958 rfl rfl ?_
  refine v_bipush fx dX8_init_959 (by decide +kernel) rfl ?_
  refine v_sipush fx dX8_init_961 (by decide +kernel) rfl ?_
  refine v_iast fx 3 (lfT mWM 13) [(h0, ob 8 [.ref q_1, .ref q_2, .null, .null, .null, .null, .null, .int (iI 0), .int (iI 0), .int (iI 0), .null, .null, .int (iI 0), .null, .int (iI 0), .int (iI 0), .null, .int (iI 0), .int (iI 0), .int (iI 0), .int (iI 0), .null, .null, .null, .null, .int (iI 0), .int (iI 0), .int (iI 0), .int (iI 0), .int (iI 0), .int (iI 0)]), (q_1, aI g 64 (lfT mW 64)), (q_2, aI g 64 (lfT mB 64)), (q_3, aI g 27 (lfT mWM 13))] dX8_init_964 rfl (by omega) (by omega) (lfT_step (k := 12) rfl) rfl rfl ?_
  refine v_dup fx dX8_init_965 rfl rfl ?_
  refine v_bipush fx dX8_init_966 (by decide +kernel) rfl ?_
  refine v_sipush fx dX8_init_968 (by decide +kernel) rfl ?_
  refine v_iast fx 3 (lfT mWM 14) [(h0, ob 8 [.ref q_1, .ref q_2, .null, .null, .null, .null, .null, .int (iI 0), .int (iI 0), .int (iI 0), .null, .null, .int (iI 0), .null, .int (iI 0), .int (iI 0), .null, .int (iI 0), .int (iI 0), .int (iI 0), .int (iI 0), .null, .null, .null, .null, .int (iI 0), .int (iI 0), .int (iI 0), .int (iI 0), .int (iI 0), .int (iI 0)]), (q_1, aI g 64 (lfT mW 64)), (q_2, aI g 64 (lfT mB 64)), (q_3, aI g 27 (lfT mWM 14))] dX8_init_971 rfl (by omega) (by omega) (lfT_step (k := 13) rfl) rfl rfl ?_
  refine v_dup fx dX8_init_972 rfl rfl ?_
  refine v_bipush fx dX8_init_973 (by decide +kernel) rfl ?_
  refine v_sipush fx dX8_init_975 (by decide +kernel) rfl ?_
  refine v_iast fx 3 (lfT mWM 15) [(h0, ob 8 [.ref q_1, .ref q_2, .null, .null, .null, .null, .null, .int (iI 0), .int (iI 0), .int (iI 0), .null, .null, .int (iI 0), .null, .int (iI 0), .int (iI 0), .null, .int (iI 0), .int (iI 0), .int (iI 0), .int (iI 0), .null, .null, .null, .null, .int (iI 0), .int (iI 0), .int (iI 0), .int (iI 0), .int (iI 0), .int (iI 0)]), (q_1, aI g 64 (lfT mW 64)), (q_2, aI g 64 (lfT mB 64)), (q_3, aI g 27 (lfT mWM 15))] dX8_init_978 rfl (by omega) (by omega) (lfT_step (k := 14) rfl) rfl rfl ?_
  refine v_dup fx dX8_init_979 rfl rfl ?_
  refine v_bipush fx dX8_init_980 (by decide +kernel) rfl ?_
  refine v_sipush fx dX8_init_982 (by decide +kernel) rfl ?_
  refine v_iast fx 3 (lfT mWM 16) [(h0, ob 8 [.ref q_1, .ref q_2, .null, .null, .null, .null, .null, .int (iI 0), .int (iI 0), .int (iI 0), .null, .null, .int (iI 0), .null, .int (iI 0), .int (iI 0), .null, .int (iI 0), .int (iI 0), .int (iI 0), .int (iI 0), .null, .null, .null, .null, .int (iI 0), .int (iI 0), .int (iI 0), .int (iI 0), .int (iI 0), .int (iI 0)]), (q_1, aI g 64 (lfT mW 64)), (q_2, aI g 64 (lfT mB 64)), (q_3, aI g 27 (lfT mWM 16))] dX8_init_985 rfl (by omega) (by omega) (lfT_step (k := 15) rfl) rfl rfl ?_
  refine v_dup fx dX8_init_986 rfl rfl ?_
  refine v_bipush fx dX8_init_987 (by decide +kernel) rfl ?_
  refine v_sipush fx dX8_init_989 (by decide +kernel) rfl ?_
  refine v_iast fx 3 (lfT mWM 17) [(h0, ob 8 [.ref q_1, .ref q_2, .null, .null, .null, .null, .null, .int (iI 0), .int (iI 0), .int (iI 0), .null, .null, .int (iI 0), .null, .int (iI 0), .int (iI 0), .null, .int (iI 0), .int (iI 0), .int (iI 0), .int (iI 0), .null, .null, .null, .null, .int (iI 0), .int (iI 0), .int (iI 0), .int (iI 0), .int (iI 0), .int (iI 0)]), (q_1, aI g 64 (lfT mW 64)), (q_2, aI g 64 (lfT mB 64)), (q_3, aI g 27 (lfT mWM 17))] dX8_init_992 rfl (by omega) (by omega) (lfT_step (k := 16) rfl) rfl rfl ?_
  refine v_dup fx dX8_init_993 rfl rfl ?_
  refine v_bipush fx dX8_init_994 (by decide +kernel) rfl ?_
  refine v_sipush fx dX8_init_996 (by decide +kernel) rfl ?_
  refine v_iast fx 3 (lfT mWM 18) [(h0, ob 8 [.ref q_1, .ref q_2, .null, .null, .null, .null, .null, .int (iI 0), .int (iI 0), .int (iI 0), .null, .null, .int (iI 0), .null, .int (iI 0), .int (iI 0), .null, .int (iI 0), .int (iI 0), .int (iI 0), .int (iI 0), .null, .null, .null, .null, .int (iI 0), .int (iI 0), .int (iI 0), .int (iI 0), .int (iI 0), .int (iI 0)]), (q_1, aI g 64 (lfT mW 64)), (q_2, aI g 64 (lfT mB 64)), (q_3, aI g 27 (lfT mWM 18))] dX8_init_999 rfl (by omega) (by omega) (lfT_step (k := 17) rfl) rfl rfl ?_
  refine v_dup fx dX8_init_1000 rfl rfl ?_
  refine v_bipush fx dX8_init_1001 (by decide +kernel) rfl ?_
  refine v_sipush fx dX8_init_1003 (by decide +kernel) rfl ?_
  refine v_iast fx 3 (lfT mWM 19) [(h0, ob 8 [.ref q_1, .ref q_2, .null, .null, .null, .null, .null, .int (iI 0), .int (iI 0), .int (iI 0), .null, .null, .int (iI 0), .null, .int (iI 0), .int (iI 0), .null, .int (iI 0), .int (iI 0), .int (iI 0), .int (iI 0), .null, .null, .null, .null, .int (iI 0), .int (iI 0), .int (iI 0), .int (iI 0), .int (iI 0), .int (iI 0)]), (q_1, aI g 64 (lfT mW 64)), (q_2, aI g 64 (lfT mB 64)), (q_3, aI g 27 (lfT mWM 19))] dX8_init_1006 rfl (by omega) (by omega) (lfT_step (k := 18) rfl) rfl rfl ?_
  refine v_dup fx dX8_init_1007 rfl rfl ?_
  refine v_bipush fx dX8_init_1008 (by decide +kernel) rfl ?_
  refine v_sipush fx dX8_init_1010 (by decide +kernel) rfl ?_
  refine v_iast fx 3 (lfT mWM 20) [(h0, ob 8 [.ref q_1, .ref q_2, .null, .null, .null, .null, .null, .int (iI 0), .int (iI 0), .int (iI 0), .null, .null, .int (iI 0), .null, .int (iI 0), .int (iI 0), .null, .int (iI 0), .int (iI 0), .int (iI 0), .int (iI 0), .null, .null, .null, .null, .int (iI 0), .int (iI 0), .int (iI 0), .int (iI 0), .int (iI 0), .int (iI 0)]), (q_1, aI g 64 (lfT mW 64)), (q_2, aI g 64 (lfT mB 64)), (q_3, aI g 27 (lfT mWM 20))] dX8_init_1013 rfl (by omega) (by omega) (lfT_step (k := 19) rfl) rfl rfl ?_
  refine v_dup fx dX8_init_1014 rfl rfl ?_
  refine v_bipush fx dX8_init_1015 (by decide +kernel) rfl ?_
  refine v_sipush fx dX8_init_1017 (by decide +kernel) rfl ?_
  refine v_iast fx 3 (lfT mWM 21) [(h0, ob 8 [.ref q_1, .ref q_2, .null, .null, .null, .null, .null, .int (iI 0), .int (iI 0), .int (iI 0), .null, .null, .int (iI 0), .null, .int (iI 0), .int (iI 0), .null, .int (iI 0), .int (iI 0), .int (iI 0), .int (iI 0), .null, .null, .null, .null, .int (iI 0), .int (iI 0), .int (iI 0), .int (iI 0), .int (iI 0), .int (iI 0)]), (q_1, aI g 64 (lfT mW 64)), (q_2, aI g 64 (lfT mB 64)), (q_3, aI g 27 (lfT mWM 21))] dX8_init_1020 rfl (by omega) (by omega) (lfT_step (k := 20) rfl) rfl rfl ?_
  refine v_dup fx dX8_init_1021 rfl rfl ?_
  refine v_bipush fx dX8_init_1022 (by decide +kernel) rfl ?_
  refine v_sipush fx dX8_init_1024 (by decide +kernel) rfl ?_
  refine v_iast fx 3 (lfT mWM 22) [(h0, ob 8 [.ref q_1, .ref q_2, .null, .null, .null, .null, .null, .int (iI 0), .int (iI 0), .int (iI 0), .null, .null, .int (iI 0), .null, .int (iI 0), .int (iI 0), .null, .int (iI 0), .int (iI 0), .int (iI 0), .int (iI 0), .null, .null, .null, .null, .int (iI 0), .int (iI 0), .int (iI 0), .int (iI 0), .int (iI 0), .int (iI 0)]), (q_1, aI g 64 (lfT mW 64)), (q_2, aI g 64 (lfT mB 64)), (q_3, aI g 27 (lfT mWM 22))] dX8_init_1027 rfl (by omega) (by omega) (lfT_step (k := 21) rfl) rfl rfl ?_
  refine v_dup fx dX8_init_1028 rfl rfl ?_
  refine v_bipush fx dX8_init_1029 (by decide +kernel) rfl ?_
  refine v_sipush fx dX8_init_1031 (by decide +kernel) rfl ?_
  refine v_iast fx 3 (lfT mWM 23) [(h0, ob 8 [.ref q_1, .ref q_2, .null, .null, .null, .null, .null, .int (iI 0), .int (iI 0), .int (iI 0), .null, .null, .int (iI 0), .null, .int (iI 0), .int (iI 0), .null, .int (iI 0), .int (iI 0), .int (iI 0), .int (iI 0), .null, .null, .null, .null, .int (iI 0), .int (iI 0), .int (iI 0), .int (iI 0), .int (iI 0), .int (iI 0)]), (q_1, aI g 64 (lfT mW 64)), (q_2, aI g 64 (lfT mB 64)), (q_3, aI g 27 (lfT mWM 23))] dX8_init_1034 rfl (by omega) (by omega) (lfT_step (k := 22) rfl) rfl rfl ?_
  refine v_dup fx dX8_init_1035 rfl rfl ?_
  refine v_bipush fx dX8_init_1036 (by decide +kernel) rfl ?_
  refine v_sipush fx dX8_init_1038 (by decide +kernel) rfl ?_
  refine v_iast fx 3 (lfT mWM 24) [(h0, ob 8 [.ref q_1, .ref q_2, .null, .null, .null, .null, .null, .int (iI 0), .int (iI 0), .int (iI 0), .null, .null, .int (iI 0), .null, .int (iI 0), .int (iI 0), .null, .int (iI 0), .int (iI 0), .int (iI 0), .int (iI 0), .null, .null, .null, .null, .int (iI 0), .int (iI 0), .int (iI 0), .int (iI 0), .int (iI 0), .int (iI 0)]), (q_1, aI g 64 (lfT mW 64)), (q_2, aI g 64 (lfT mB 64)), (q_3, aI g 27 (lfT mWM 24))] dX8_init_1041 rfl (by omega) (by omega) (lfT_step (k := 23) rfl) rfl rfl ?_
  refine v_dup fx dX8_init_1042 rfl rfl ?_
  refine v_bipush fx dX8_init_1043 (by decide +kernel) rfl ?_
  refine v_sipush fx dX8_init_1045 (by decide +kernel) rfl ?_
  refine v_iast fx 3 (lfT mWM 25) [(h0, ob 8 [.ref q_1, .ref q_2, .null, .null, .null, .null, .null, .int (iI 0), .int (iI 0), .int (iI 0), .null, .null, .int (iI 0), .null, .int (iI 0), .int (iI 0), .null, .int (iI 0), .int (iI 0), .int (iI 0), .int (iI 0), .null, .null, .null, .null, .int (iI 0), .int (iI 0), .int (iI 0), .int (iI 0), .int (iI 0), .int (iI 0)]), (q_1, aI g 64 (lfT mW 64)), (q_2, aI g 64 (lfT mB 64)), (q_3, aI g 27 (lfT mWM 25))] dX8_init_1048 rfl (by omega) (by omega) (lfT_step (k := 24) rfl) rfl rfl ?_
  refine v_dup fx dX8_init_1049 rfl rfl ?_
  refine v_bipush fx dX8_init_1050 (by decide +kernel) rfl ?_
  refine v_bipush fx dX8_init_1052 (by decide +kernel) rfl ?_
  refine v_iast fx 3 (lfT mWM 26) [(h0, ob 8 [.ref q_1, .ref q_2, .null, .null, .null, .null, .null, .int (iI 0), .int (iI 0), .int (iI 0), .null, .null, .int (iI 0), .null, .int (iI 0), .int (iI 0), .null, .int (iI 0), .int (iI 0), .int (iI 0), .int (iI 0), .null, .null, .null, .null, .int (iI 0), .int (iI 0), .int (iI 0), .int (iI 0), .int (iI 0), .int (iI 0)]), (q_1, aI g 64 (lfT mW 64)), (q_2, aI g 64 (lfT mB 64)), (q_3, aI g 27 (lfT mWM 26))] dX8_init_1054 rfl (by omega) (by omega) (lfT_step (k := 25) rfl) rfl rfl ?_
  refine v_dup fx dX8_init_1055 rfl rfl ?_
  refine v_bipush fx dX8_init_1056 (by decide +kernel) rfl ?_
  refine v_sipush fx dX8_init_1058 (by decide +kernel) rfl ?_
  refine v_iast fx 3 (lfT mWM 27) [(h0, ob 8 [.ref q_1, .ref q_2, .null, .null, .null, .null, .null, .int (iI 0), .int (iI 0), .int (iI 0), .null, .null, .int (iI 0), .null, .int (iI 0), .int (iI 0), .null, .int (iI 0), .int (iI 0), .int (iI 0), .int (iI 0), .null, .null, .null, .null, .int (iI 0), .int (iI 0), .int (iI 0), .int (iI 0), .int (iI 0), .int (iI 0)]), (q_1, aI g 64 (lfT mW 64)), (q_2, aI g 64 (lfT mB 64)), (q_3, aI g 27 (lfT mWM 27))] dX8_init_1061 rfl (by omega) (by omega) (lfT_step (k := 26) rfl) rfl rfl ?_
  refine v_putF fx 0 2 [(h0, ob 8 [.ref q_1, .ref q_2, .ref q_3, .null, .null, .null, .null, .int (iI 0), .int (iI 0), .int (iI 0), .null, .null, .int (iI 0), .null, .int (iI 0), .int (iI 0), .null, .int (iI 0), .int (iI 0), .int (iI 0), .int (iI 0), .null, .null, .null, .null, .int (iI 0), .int (iI 0), .int (iI 0), .int (iI 0), .int (iI 0), .int (iI 0)]), (q_1, aI g 64 (lfT mW 64)), (q_2, aI g 64 (lfT mB 64)), (q_3, aI g 27 (lfT mWM 27))] hnm inX8 tyX8_ok nmX8 k998 dX8_init_1062 rfl rfl (by decide) rfl rfl rfl rfl rfl (nl rfl) rfl rfl ?_
  refine v_aload_n fx 0 dX8_init_1065 rfl rfl ?_
  refine v_bipush fx dX8_init_1066 (by decide +kernel) rfl ?_
  refine v_newa fx 0 .int 27 (27, .inl (fun _ => 0)) 4 182 k98 dX8_init_1068 rfl rfl rfl (by omega) rfl (fun cA => arr0_int cA _) (by decide) (nl rfl) (nl rfl) rfl rfl rfl (fun q_4 => ?_)
  refine v_is (wn := [(h0, ob 8 [.ref q_1, .ref q_2, .ref q_3, .null, .null, .null, .null, .int (iI 0), .int (iI 0), .int (iI 0), .null, .null, .int (iI 0), .null, .int (iI 0), .int (iI 0), .null, .int (iI 0), .int (iI 0), .int (iI 0), .int (iI 0), .null, .null, .null, .null, .int (iI 0), .int (iI 0), .int (iI 0), .int (iI 0), .int (iI 0), .int (iI 0)]), (q_1, aI g 64 (lfT mW 64)), (q_2, aI g 64 (lfT mB 64)), (q_3, aI g 27 (lfT mWM 27)), (q_4, aI g 27 (fun _ => 0))]) (cn := 4) (sn := 182) (sn2 := [.ref q_4, .ref h0]) rfl rfl rfl rfl ?_
  refine v_dup fx dX8_init_1070 rfl rfl ?_
  refine v_iconst fx dX8_init_1071 rfl ?_
  refine v_sipush fx dX8_init_1072 (by decide +kernel) rfl ?_
  refine v_iast fx 4 (lfT mBM 1) [(h0, ob 8 [.ref q_1, .ref q_2, .ref q_3, .null, .null, .null, .null, .int (iI 0), .int (iI 0), .int (iI 0), .null, .null, .int (iI 0), .null, .int (iI 0), .int (iI 0), .null, .int (iI 0), .int (iI 0), .int (iI 0), .int (iI 0), .null, .null, .null, .null, .int (iI 0), .int (iI 0), .int (iI 0), .int (iI 0), .int (iI 0), .int (iI 0)]), (q_1, aI g 64 (lfT mW 64)), (q_2, aI g 64 (lfT mB 64)), (q_3, aI g 27 (lfT mWM 27)), (q_4, aI g 27 (lfT mBM 1))] dX8_init_1075 rfl (by omega) (by omega) (lfT_first rfl) rfl rfl ?_
  refine v_dup fx dX8_init_1076 rfl rfl ?_
  refine v_iconst fx dX8_init_1077 rfl ?_
  refine v_sipush fx dX8_init_1078 (by decide +kernel) rfl ?_
  refine v_iast fx 4 (lfT mBM 2) [(h0, ob 8 [.ref q_1, .ref q_2, .ref q_3, .null, .null, .null, .null, .int (iI 0), .int (iI 0), .int (iI 0), .null, .null, .int (iI 0), .null, .int (iI 0), .int (iI 0), .null, .int (iI 0), .int (iI 0), .int (iI 0), .int (iI 0), .null, .null, .null, .null, .int (iI 0), .int (iI 0), .int (iI 0), .int (iI 0), .int (iI 0), .int (iI 0)]), (q_1, aI g 64 (lfT mW 64)), (q_2, aI g 64 (lfT mB 64)), (q_3, aI g 27 (lfT mWM 27)), (q_4, aI g 27 (lfT mBM 2))] dX8_init_1081 rfl (by omega) (by omega) (lfT_step (k := 1) rfl) rfl rfl ?_
  refine v_dup fx dX8_init_1082 rfl rfl ?_
  refine v_iconst fx dX8_init_1083 rfl ?_
  refine v_sipush fx dX8_init_1084 (by decide +kernel) rfl ?_
  refine v_iast fx 4 (lfT mBM 3) [(h0, ob 8 [.ref q_1, .ref q_2, .ref q_3, .null, .null, .null, .null, .int (iI 0), .int (iI 0), .int (iI 0), .null, .null, .int (iI 0), .null, .int (iI 0), .int (iI 0), .null, .int (iI 0), .int (iI 0), .int (iI 0), .int (iI 0), .null, .null, .null, .null, .int (iI 0), .int (iI 0), .int (iI 0), .int (iI 0), .int (iI 0), .int (iI 0)]), (q_1, aI g 64 (lfT mW 64)), (q_2, aI g 64 (lfT mB 64)), (q_3, aI g 27 (lfT mWM 27)), (q_4, aI g 27 (lfT mBM 3))] dX8_init_1087 rfl (by omega) (by omega) (lfT_step (k := 2) rfl) rfl rfl ?_
  refine v_dup fx dX8_init_1088 rfl rfl ?_
  refine v_iconst fx dX8_init_1089 rfl ?_
  refine v_sipush fx dX8_init_1090 (by decide +kernel) rfl ?_
  refine v_iast fx 4 (lfT mBM 4) [(h0, ob 8 [.ref q_1, .ref q_2, .ref q_3, .null, .null, .null, .null, .int (iI 0), .int (iI 0), .int (iI 0), .null, .null, .int (iI 0), .null, .int (iI 0), .int (iI 0), .null, .int (iI 0), .int (iI 0), .int (iI 0), .int (iI 0), .null, .null, .null, .null, .int (iI 0), .int (iI 0), .int (iI 0), .int (iI 0), .int (iI 0), .int (iI 0)]), (q_1, aI g 64 (lfT mW 64)), (q_2, aI g 64 (lfT mB 64)), (q_3, aI g 27 (lfT mWM 27)), (q_4, aI g 27 (lfT mBM 4))] dX8_init_1093 rfl (by omega) (by omega) (lfT_step (k := 3) rfl) rfl rfl ?_
  refine v_dup fx dX8_init_1094 rfl rfl ?_
  refine v_iconst fx dX8_init_1095 rfl ?_
  refine v_sipush fx dX8_init_1096 (by decide +kernel) rfl ?_
  refine v_iast fx 4 (lfT mBM 5) [(h0, ob 8 [.ref q_1, .ref q_2, .ref q_3, .null, .null, .null, .null, .int (iI 0), .int (iI 0), .int (iI 0), .null, .null, .int (iI 0), .null, .int (iI 0), .int (iI 0), .null, .int (iI 0), .int (iI 0), .int (iI 0), .int (iI 0), .null, .null, .null, .null, .int (iI 0), .int (iI 0), .int (iI 0), .int (iI 0), .int (iI 0), .int (iI 0)]), (q_1, aI g 64 (lfT mW 64)), (q_2, aI g 64 (lfT mB 64)), (q_3, aI g 27 (lfT mWM 27)), (q_4, aI g 27 (lfT mBM 5))] dX8_init_1099 rfl (by omega) (by omega) (lfT_step (k := 4) rfl) rfl rfl ?_
  refine v_dup fx dX8_init_1100 rfl rfl ?_
  refine v_iconst fx dX8_init_1101 rfl ?_
  refine v_sipush fx dX8_init_1102 (by decide +kernel) rfl ?_
  refine v_iast fx 4 (lfT mBM 6) [(h0, ob 8 [.ref q_1, .ref q_2, .ref q_3, .null, .null, .null, .null, .int (iI 0), .int (iI 0), .int (iI 0), .null, .null, .int (iI 0), .null, .int (iI 0), .int (iI 0), .null, .int (iI 0), .int (iI 0), .int (iI 0), .int (iI 0), .null, .null, .null, .null, .int (iI 0), .int (iI 0), .int (iI 0), .int (iI 0), .int (iI 0), .int (iI 0)]), (q_1, aI g 64 (lfT mW 64)), (q_2, aI g 64 (lfT mB 64)), (q_3, aI g 27 (lfT mWM 27)), (q_4, aI g 27 (lfT mBM 6))] dX8_init_1105 rfl (by omega) (by omega) (lfT_step (k := 5) rfl) rfl rfl ?_
  refine v_dup fx dX8_init_1106 rfl rfl ?_
  refine v_bipush fx dX8_init_1107 (by decide +kernel) rfl ?_
  refine v_sipush fx dX8_init_1109 (by decide +kernel) rfl ?_
  refine v_iast fx 4 (lfT mBM 7) [(h0, ob 8 [.ref q_1, .ref q_2, .ref q_3, .null, .null, .null, .null, .int (iI 0), .int (iI 0), .int (iI 0), .null, .null, .int (iI 0), .null, .int (iI 0), .int (iI 0), .null, .int (iI 0), .int (iI 0), .int (iI 0), .int (iI 0), .null, .null, .null, .null, .int (iI 0), .int (iI 0), .int (iI 0), .int (iI 0), .int (iI 0), .int (iI 0)]), (q_1, aI g 64 (lfT mW 64)), (q_2, aI g 64 (lfT mB 64)), (q_3, aI g 27 (lfT mWM 27)), (q_4, aI g 27 (lfT mBM 7))] dX8_init_1112 rfl (by omega) (by omega) (lfT_step (k := 6) rfl) rfl rfl ?_
  refine v_dup fx dX8_init_1113 rfl rfl ?_
  refine v_bipush fx dX8_init_1114 (by decide +kernel) rfl ?_
  refine v_sipush fx dX8_init_1116 (by decide +kernel) rfl ?_
  refine v_iast fx 4 (lfT mBM 8) [(h0, ob 8 [.ref q_1, .ref q_2, .ref q_3, .null, .null, .null, .null, .int (iI 0), .int (iI 0), .int (iI 0), .null, .null, .int (iI 0), .null, .int (iI 0), .int (iI 0), .null, .int (iI 0), .int (iI 0), .int (iI 0), .int (iI 0), .null, .null, .null, .null, .int (iI 0), .int (iI 0), .int (iI 0), .int (iI 0), .int (iI 0), .int (iI 0)]), (q_1, aI g 64 (lfT mW 64)), (q_2, aI g 64 (lfT mB 64)), (q_3, aI g 27 (lfT mWM 27)), (q_4, aI g 27 (lfT mBM 8))] dX8_init_1119 rfl (by omega) (by omega) (lfT_step (k := 7) rfl) rfl rfl ?_
  refine v_dup fx dX8_init_1120 rfl rfl ?_
  refine v_bipush fx dX8_init_1121 (by decide +kernel) rfl ?_
  refine v_sipush fx dX8_init_1123 (by decide +kernel) rfl ?_
  refine v_iast fx 4 (lfT mBM 9) [(h0, ob 8 [.ref q_1, .ref q_2, .ref q_3, .null, .null, .null, .null, .int (iI 0), .int (iI 0), .int (iI 0), .null, .null, .int (iI 0), .null, .int (iI 0), .int (iI 0), .null, .int (iI 0), .int (iI 0), .int (iI 0), .int (iI 0), .null, .null, .null, .null, .int (iI 0), .int (iI 0), .int (iI 0), .int (iI 0), .int (iI 0), .int (iI 0)]), (q_1, aI g 64 (lfT mW 64)), (q_2, aI g 64 (lfT mB 64)), (q_3, aI g 27 (lfT mWM 27)), (q_4, aI g 27 (lfT mBM 9))] dX8_init_1126 rfl (by omega) (by omega) (lfT_step (k := 8) rfl) rfl rfl ?_
  refine v_dup fx dX8_init_1127 rfl rfl ?_
  refine v_bipush fx dX8_init_1128 (by decide +kernel) rfl ?_
  refine v_sipush fx dX8_init_1130 (by decide +kernel) rfl ?_
  refine v_iast fx 4 (lfT mBM 10) [(h0, ob 8 [.ref q_1, .ref q_2, .ref q_3, .null, .null, .null, .null, .int (iI 0), .int (iI 0), .int (iI 0), .null, .null, .int (iI 0), .null, .int (iI 0), .int (iI 0), .null, .int (iI 0), .int (iI 0), .int (iI 0), .int (iI 0), .null, .null, .null, .null, .int (iI 0), .int (iI 0), .int (iI 0), .int (iI 0), .int (iI 0), .int (iI 0)]), (q_1, aI g 64 (lfT mW 64)), (q_2, aI g 64 (lfT mB 64)), (q_3, aI g 27 (lfT mWM 27)), (q_4, aI g 27 (lfT mBM 10))] dX8_init_1133 rfl (by omega) (by omega) (lfT_step (k := 9) rfl) rfl rfl ?_
  refine v_dup fx dX8_init_1134 rfl rfl ?_
  refine v_bipush fx dX8_init_1135 (by decide +kernel) rfl ?_
  refine v_sipush fx dX8_init_1137 (by decide +kernel) rfl ?_
  refine v_iast fx 4 (lfT mBM 11) [(h0, ob 8 [.ref q_1, .ref q_2, .ref q_3, .null, .null, .null, .null, .int (iI 0), .int (iI 0), .int (iI 0), .null, .null, .int (iI 0), .null, .int (iI 0), .int (iI 0), .null, .int (iI 0), .int (iI 0), .int (iI 0), .int (iI 0), .null, .null, .null, .null, .int (iI 0), .int (iI 0), .int (iI 0), .int (iI 0), .int (iI 0), .int (iI 0)]), (q_1, aI g 64 (lfT mW 64)), (q_2, aI g 64 (lfT mB 64)), (q_3, aI g 27 (lfT mWM 27)), (q_4, aI g 27 (lfT mBM 11))] dX8_init_1140 rfl (by omega) (by omega) (lfT_step (k := 10) rfl) rfl rfl ?_
  refine v_dup fx dX8_init_1141 rfl rfl ?_
  refine v_bipush fx dX8_init_1142 (by decide +kernel) rfl ?_
  refine v_sipush fx dX8_init_1144 (by decide +kernel) rfl ?_
  refine v_iast fx 4 (lfT mBM 12) [(h0, ob 8 [.ref q_1, .ref q_2, .ref q_3, .null, .null, .null, .null, .int (iI 0), .int (iI 0), .int (iI 0), .null, .null, .int (iI 0), .null, .int (iI 0), .int (iI 0), .null, .int (iI 0), .int (iI 0), .int (iI 0), .int (iI 0), .null, .null, .null, .null, .int (iI 0), .int (iI 0), .int (iI 0), .int (iI 0), .int (iI 0), .int (iI 0)]), (q_1, aI g 64 (lfT mW 64)), (q_2, aI g 64 (lfT mB 64)), (q_3, aI g 27 (lfT mWM 27)), (q_4, aI g 27 (lfT mBM 12))] dX8_init_1147 rfl (by omega) (by omega) (lfT_step (k := 11) rfl) rfl rfl ?_
  refine v_dup fx dX8_init_1148 rfl rfl ?_
  refine v_bipush fx dX8_init_1149 (by decide +kernel) rfl ?_
  refine v_sipush fx dX8_init_1151 (by decide +kernel) rfl ?_
  refine v_iast fx 4 (lfT mBM 13) [(h0, ob 8 [.ref q_1, .ref q_2, .ref q_3, .null, .null, .null, .null, .int (iI 0), .int (iI 0), .int (iI 0), .null, .null, .int (iI 0), .null, .int (iI 0), .int (iI 0), .null, .int (iI 0), .int (iI 0), .int (iI 0), .int (iI 0), .null, .null, .null, .null, .int (iI 0), .int (iI 0), .int (iI 0), .int (iI 0), .int (iI 0), .int (iI 0)]), (q_1, aI g 64 (lfT mW 64)), (q_2, aI g 64 (lfT mB 64)), (q_3, aI g 27 (lfT mWM 27)), (q_4, aI g 27 (lfT mBM 13))] dX8_init_1154 rfl (by omega) (by omega) (lfT_step (k := 12) rfl) rfl rfl ?_
  refine v_dup fx dX8_init_1155 rfl rfl ?_
  refine v_bipush fx dX8_init_1156 (by decide +kernel) rfl ?_
  refine v_sipush fx dX8_init_1158 (by decide +kernel) rfl ?_
  refine v_iast fx 4 (lfT mBM 14) [(h0, ob 8 [.ref q_1, .ref q_2, .ref q_3, .null, .null, .null, .null, .int (iI 0), .int (iI 0), .int (iI 0), .null, .null, .int (iI 0), .null, .int (iI 0), .int (iI 0), .null, .int (iI 0), .int (iI 0), .int (iI 0), .int (iI 0), .null, .null, .null, .null, .int (iI 0), .int (iI 0), .int (iI 0), .int (iI 0), .int (iI 0), .int (iI 0)]), (q_1, aI g 64 (lfT mW 64)), (q_2, aI g 64 (lfT mB 64)), (q_3, aI g 27 (lfT mWM 27)), (q_4, aI g 27 (lfT mBM 14))] dX8_init_1161 rfl (by omega) (by omega) (lfT_step (k := 13) rfl) rfl rfl ?_
  refine v_dup fx dX8_init_1162 rfl rfl ?_
  refine v_bipush fx dX8_init_1163 (by decide +kernel) rfl ?_
  refine v_sipush fx dX8_init_1165 (by decide +kernel) rfl ?_
  refine v_iast fx 4 (lfT mBM 15) [(h0, ob 8 [.ref q_1, .ref q_2, .ref q_3, .null, .null, .null, .null, .int (iI 0), .int (iI 0), .int (iI 0), .null, .null, .int (iI 0), .null, .int (iI 0), .int (iI 0), .null, .int (iI 0), .int (iI 0), .int (iI 0), .int (iI 0), .null, .null, .null, .null, .int (iI 0), .int (iI 0), .int (iI 0), .int (iI 0), .int (iI 0), .int (iI 0)]), (q_1, aI g 64 (lfT mW 64)), (q_2, aI g 64 (lfT mB 64)), (q_3, aI g 27 (lfT mWM 27)), (q_4, aI g 27 (lfT mBM 15))] dX8_init_1168 rfl (by omega) (by omega) (lfT_step (k := 14) rfl) rfl rfl ?_
  refine v_dup fx dX8_init_1169 rfl rfl ?_
  refine v_bipush fx dX8_init_1170 (by decide +kernel) rfl ?_
  refine v_sipush fx dX8_init_1172 (by decide +kernel) rfl ?_
  refine v_iast fx 4 (lfT mBM 16) [(h0, ob 8 [.ref q_1, .ref q_2, .ref q_3, .null, .null, .null, .null, .int (iI 0), .int (iI 0), .int (iI 0), .null, .null, .int (iI 0), .null, .int (iI 0), .int (iI 0), .null, .int (iI 0), .int (iI 0), .int (iI 0), .int (iI 0), .null, .null, .null, .null, .int (iI 0), .int (iI 0), .int (iI 0), .int (iI 0), .int (iI 0), .int (iI 0)]), (q_1, aI g 64 (lfT mW 64)), (q_2, aI g 64 (lfT mB 64)), (q_3, aI g 27 (lfT mWM 27)), (q_4, aI g 27 (lfT mBM 16))] dX8_init_1175 rfl (by omega) (by omega) (lfT_step (k := 15) rfl) rfl rfl ?_
  refine v_dup fx dX8_init_1176 rfl rfl ?_
  refine v_bipush fx dX8_init_1177 (by decide +kernel) rfl ?_
  refine v_sipush fx dX8_init_1179 (by decide +kernel) rfl ?_
  refine v_iast fx 4 (lfT mBM 17) [(h0, ob 8 [.ref q_1, .ref q_2, .ref q_3, .null, .null, .null, .null, .int (iI 0), .int (iI 0), .int (iI 0), .null, .null, .int (iI 0), .null, .int (iI 0), .int (iI 0), .null, .int (iI 0), .int (iI 0), .int (iI 0), .int (iI 0), .null, .null, .null, .null, .int (iI 0), .int (iI 0), .int (iI 0), .int (iI 0), .int (iI 0), .int (iI 0)]), (q_1, aI g 64 (lfT mW 64)), (q_2, aI g 64 (lfT mB 64)), (q_3, aI g 27 (lfT mWM 27)), (q_4, aI g 27 (lfT mBM 17))] dX8_init_1182 rfl (by omega) (by omega) (lfT_step (k := 16) rfl) rfl rfl ?_
  refine v_dup fx dX8_init_1183 rfl rfl ?_
  refine v_bipush fx dX8_init_1184 (by decide +kernel) rfl ?_
  refine v_sipush fx dX8_init_1186 (by decide +kernel) rfl ?_
  refine v_iast fx 4 (lfT mBM 18) [(h0, ob 8 [.ref q_1, .ref q_2, .ref q_3, .null, .null, .null, .null, .int (iI 0), .int (iI 0), .int (iI 0), .null, .null, .int (iI 0), .null, .int (iI 0), .int (iI 0), .null, .int (iI 0), .int (iI 0), .int (iI 0), .int (iI 0), .null, .null, .null, .null, .int (iI 0), .int (iI 0), .int (iI 0), .int (iI 0), .int (iI 0), .int (iI 0)]), (q_1, aI g 64 (lfT mW 64)), (q_2, aI g 64 (lfT mB 64)), (q_3, aI g 27 (lfT mWM 27)), (q_4, aI g 27 (lfT mBM 18))] dX8_init_1189 rfl (by omega) (by omega) (lfT_step (k := 17) rfl) rfl rfl ?_
  refine v_dup fx dX8_init_1190 rfl rfl ?_
  refine v_bipush fx dX8_init_1191 (by decide +kernel) rfl ?_
  refine v_sipush fx dX8_init_1193 (by decide +kernel) rfl ?_
  refine v_iast fx 4 (lfT mBM 19) [(h0, ob 8 [.ref q_1, .ref q_2, .ref q_3, .null, .null, .null, .null, .int (iI 0), .int (iI 0), .int (iI 0), .null, .null, .int (iI 0), .null, .int (iI 0), .int (iI 0), .null, .int (iI 0), .int (iI 0), .int (iI 0), .int (iI 0), .null, .null, .null, .null, .int (iI 0), .int (iI 0), .int (iI 0), .int (iI 0), .int (iI 0), .int (iI 0)]), (q_1, aI g 64 (lfT mW 64)), (q_2, aI g 64 (lfT mB 64)), (q_3, aI g 27 (lfT mWM 27)), (q_4, aI g 27 (lfT mBM 19))] dX8_init_1196 rfl (by omega) (by omega) (lfT_step (k := 18) rfl) rfl rfl ?_
  refine v_dup fx dX8_init_1197 rfl rfl ?_
  refine v_bipush fx dX8_init_1198 (by decide +kernel) rfl ?_
  refine v_sipush fx dX8_init_1200 (by decide +kernel) rfl ?_
  refine v_iast fx 4 (lfT mBM 20) [(h0, ob 8 [.ref q_1, .ref q_2, .ref q_3, .null, .null, .null, .null, .int (iI 0), .int (iI 0), .int (iI 0), .null, .null, .int (iI 0), .null, .int (iI 0), .int (iI 0), .null, .int (iI 0), .int (iI 0), .int (iI 0), .int (iI 0), .null, .null, .null, .null, .int (iI 0), .int (iI 0), .int (iI 0), .int (iI 0), .int (iI 0), .int (iI 0)]), (q_1, aI g 64 (lfT mW 64)), (q_2, aI g 64 (lfT mB 64)), (q_3, aI g 27 (lfT mWM 27)), (q_4, aI g 27 (lfT mBM 20))] dX8_init_1203 rfl (by omega) (by omega) (lfT_step (k := 19) rfl) rfl rfl ?_
  refine v_dup fx dX8_init_1204 rfl rfl ?_
  refine v_bipush fx dX8_init_1205 (by decide +kernel) rfl ?_
  refine v_sipush fx dX8_init_1207 (by decide +kernel) rfl ?_
  refine v_iast fx 4 (lfT mBM 21) [(h0, ob 8 [.ref q_1, .ref q_2, .ref q_3, .null, .null, .null, .null, .int (iI 0), .int (iI 0), .int (iI 0), .null, .null, .int (iI 0), .null, .int (iI 0), .int (iI 0), .null, .int (iI 0), .int (iI 0), .int (iI 0), .int (iI 0), .null, .null, .null, .null, .int (iI 0), .int (iI 0), .int (iI 0), .int (iI 0), .int (iI 0), .int (iI 0)]), (q_1, aI g 64 (lfT mW 64)), (q_2, aI g 64 (lfT mB 64)), (q_3, aI g 27 (lfT mWM 27)), (q_4, aI g 27 (lfT mBM 21))] dX8_init_1210 rfl (by omega) (by omega) (lfT_step (k := 20) rfl) rfl rfl ?_
  refine v_dup fx dX8_init_1211 rfl rfl ?_
  refine v_bipush fx dX8_init_1212 (by decide +kernel) rfl ?_
  refine v_sipush fx dX8_init_1214 (by decide +kernel) rfl ?_
  refine v_iast fx 4 (lfT mBM 22) [(h0, ob 8 [.ref q_1, .ref q_2, .ref q_3, .null, .null, .null, .null, .int (iI 0), .int (iI 0), .int (iI 0), .null, .null, .int (iI 0), .null, .int (iI 0), .int (iI 0), .null, .int (iI 0), .int (iI 0), .int (iI 0), .int (iI 0), .null, .null, .null, .null, .int (iI 0), .int (iI 0), .int (iI 0), .int (iI 0), .int (iI 0), .int (iI 0)]), (q_1, aI g 64 (lfT mW 64)), (q_2, aI g 64 (lfT mB 64)), (q_3, aI g 27 (lfT mWM 27)), (q_4, aI g 27 (lfT mBM 22))] dX8_init_1217 rfl (by omega) (by omega) (lfT_step (k := 21) rfl) rfl rfl ?_
  refine v_dup fx dX8_init_1218 rfl rfl ?_
  refine v_bipush fx dX8_init_1219 (by decide +kernel) rfl ?_
  refine v_sipush fx dX8_init_1221 (by decide +kernel) rfl ?_
  refine v_iast fx 4 (lfT mBM 23) [(h0, ob 8 [.ref q_1, .ref q_2, .ref q_3, .null, .null, .null, .null, .int (iI 0), .int (iI 0), .int (iI 0), .null, .null, .int (iI 0), .null, .int (iI 0), .int (iI 0), .null, .int (iI 0), .int (iI 0), .int (iI 0), .int (iI 0), .null, .null, .null, .null, .int (iI 0), .int (iI 0), .int (iI 0), .int (iI 0), .int (iI 0), .int (iI 0)]), (q_1, aI g 64 (lfT mW 64)), (q_2, aI g 64 (lfT mB 64)), (q_3, aI g 27 (lfT mWM 27)), (q_4, aI g 27 (lfT mBM 23))] dX8_init_1224 rfl (by omega) (by omega) (lfT_step (k := 22) rfl) rfl rfl ?_
  refine v_dup fx dX8_init_1225 rfl rfl ?_
  refine v_bipush fx dX8_init_1226 (by decide +kernel) rfl ?_
  refine v_sipush fx dX8_init_1228 (by decide +kernel) rfl ?_
  refine v_iast fx 4 (lfT mBM 24) [(h0, ob 8 [.ref q_1, .ref q_2, .ref q_3, .null, .null, .null, .null, .int (iI 0), .int (iI 0), .int (iI 0), .null, .null, .int (iI 0), .null, .int (iI 0), .int (iI 0), .null, .int (iI 0), .int (iI 0), .int (iI 0), .int (iI 0), .null, .null, .null, .null, .int (iI 0), .int (iI 0), .int (iI 0), .int (iI 0), .int (iI 0), .int (iI 0)]), (q_1, aI g 64 (lfT mW 64)), (q_2, aI g 64 (lfT mB 64)), (q_3, aI g 27 (lfT mWM 27)), (q_4, aI g 27 (lfT mBM 24))] dX8_init_1231 rfl (by omega) (by omega) (lfT_step (k := 23) rfl) rfl rfl ?_
  refine v_dup fx dX8_init_1232 rfl rfl ?_
  refine v_bipush fx dX8_init_1233 (by decide +kernel) rfl ?_
  refine v_sipush fx dX8_init_1235 (by decide +kernel) rfl ?_
  refine v_iast fx 4 (lfT mBM 25) [(h0, ob 8 [.ref q_1, .ref q_2, .ref q_3, .null, .null, .null, .null, .int (iI 0), .int (iI 0), .int (iI 0), .null, .null, .int (iI 0), .null, .int (iI 0), .int (iI 0), .null, .int (iI 0), .int (iI 0), .int (iI 0), .int (iI 0), .null, .null, .null, .null, .int (iI 0), .int (iI 0), .int (iI 0), .int (iI 0), .int (iI 0), .int (iI 0)]), (q_1, aI g 64 (lfT mW 64)), (q_2, aI g 64 (lfT mB 64)), (q_3, aI g 27 (lfT mWM 27)), (q_4, aI g 27 (lfT mBM 25))] dX8_init_1238 rfl (by omega) (by omega) (lfT_step (k := 24) rfl) rfl rfl ?_
  refine v_dup fx dX8_init_1239 rfl rfl ?_
  refine v_bipush fx dX8_init_1240 (by decide +kernel) rfl ?_
  refine v_sipush fx dX8_init_1242 (by decide +kernel) rfl ?_
  refine v_iast fx 4 (lfT mBM 26) [(h0, ob 8 [.ref q_1, .ref q_2, .ref q_3, .null, .null, .null, .null, .int (iI 0), .int (iI 0), .int (iI 0), .null, .null, .int (iI 0), .null, .int (iI 0), .int (iI 0), .null, .int (iI 0), .int (iI 0), .int (iI 0), .int (iI 0), .null, .null, .null, .null, .int (iI 0), .int (iI 0), .int (iI 0), .int (iI 0), .int (iI 0), .int (iI 0)]), (q_1, aI g 64 (lfT mW 64)), (q_2, aI g 64 (lfT mB 64)), (q_3, aI g 27 (lfT mWM 27)), (q_4, aI g 27 (lfT mBM 26))] dX8_init_1245 rfl (by omega) (by omega) (lfT_step (k := 25) rfl) rfl rfl ?_
  refine v_dup fx dX8_init_1246 rfl rfl ?_
  refine v_bipush fx dX8_init_1247 (by decide +kernel) rfl ?_
  refine v_sipush fx dX8_init_1249 (by decide +kernel) rfl ?_
  refine v_iast fx 4 (lfT mBM 27) [(h0, ob 8 [.ref q_1, .ref q_2, .ref q_3, .null, .null, .null, .null, .int (iI 0), .int (iI 0), .int (iI 0), .null, .null, .int (iI 0), .null, .int (iI 0), .int (iI 0), .null, .int (iI 0), .int (iI 0), .int (iI 0), .int (iI 0), .null, .null, .null, .null, .int (iI 0), .int (iI 0), .int (iI 0), .int (iI 0), .int (iI 0), .int (iI 0)]), (q_1, aI g 64 (lfT mW 64)), (q_2, aI g 64 (lfT mB 64)), (q_3, aI g 27 (lfT mWM 27)), (q_4, aI g 27 (lfT mBM 27))] dX8_init_1252 rfl (by omega) (by omega) (lfT_step (k := 26) rfl) rfl rfl ?_
  refine v_putF fx 0 3 [(h0, ob 8 [.ref q_1, .ref q_2, .ref q_3, .ref q_4, .null, .null, .null, .int (iI 0), .int (iI 0), .int (iI 0), .null, .null, .int (iI 0), .null, .int (iI 0), .int (iI 0), .null, .int (iI 0), .int (iI 0), .int (iI 0), .int (iI 0), .null, .null, .null, .null, .int (iI 0), .int (iI 0), .int (iI 0), .int (iI 0), .int (iI 0), .int (iI 0)]), (q_1, aI g 64 (lfT mW 64)), (q_2, aI g 64 (lfT mB 64)), (q_3, aI g 27 (lfT mWM 27)), (q_4, aI g 27 (lfT mBM 27))] hnm inX8 tyX8_ok nmX8 k999 dX8_init_1253 rfl rfl (by decide) rfl rfl rfl rfl rfl (nl rfl) rfl rfl ?_
  refine v_aload_n fx 0 dX8_init_1256 rfl rfl ?_
  refine v_bipush fx dX8_init_1257 (by decide +kernel) rfl ?_
  refine v_newa fx 0 .int 13 (13, .inl (fun _ => 0)) 5 195 k98 dX8_init_1259 rfl rfl rfl (by omega) rfl (fun cA => arr0_int cA _) (by decide) (nl rfl) (nl rfl) rfl rfl rfl (fun q_5 => ?_)
  refine v_is (wn := [(h0, ob 8 [.ref q_1, .ref q_2, .ref q_3, .ref q_4, .null, .null, .null, .int (iI 0), .int (iI 0), .int (iI 0), .null, .null, .int (iI 0), .null, .int (iI 0), .int (iI 0), .null, .int (iI 0), .int (iI 0), .int (iI 0), .int (iI 0), .null, .null, .null, .null, .int (iI 0), .int (iI 0), .int (iI 0), .int (iI 0), .int (iI 0), .int (iI 0)]), (q_1, aI g 64 (lfT mW 64)), (q_2, aI g 64 (lfT mB 64)), (q_3, aI g 27 (lfT mWM 27)), (q_4, aI g 27 (lfT mBM 27)), (q_5, aI g 13 (fun _ => 0))]) (cn := 5) (sn := 195) (sn2 := [.ref q_5, .ref h0]) rfl rfl rfl rfl ?_
  refine v_dup fx dX8_init_1261 rfl rfl ?_
  refine v_iconst fx dX8_init_1262 rfl ?_
  refine v_sipush fx dX8_init_1263 (by decide +kernel) rfl ?_
  refine v_iast fx 5 (lfT mBO 1) [(h0, ob 8 [.ref q_1, .ref q_2, .ref q_3, .ref q_4, .null, .null, .null, .int (iI 0), .int (iI 0), .int (iI 0), .null, .null, .int (iI 0), .null, .int (iI 0), .int (iI 0), .null, .int (iI 0), .int (iI 0), .int (iI 0), .int (iI 0), .null, .null, .null, .null, .int (iI 0), .int (iI 0), .int (iI 0), .int (iI 0), .int (iI 0), .int (iI 0)]), (q_1, aI g 64 (lfT mW 64)), (q_2, aI g 64 (lfT mB 64)), (q_3, aI g 27 (lfT mWM 27)), (q_4, aI g 27 (lfT mBM 27)), (q_5, aI g 13 (lfT mBO 1))] dX8_init_1266 rfl (by omega) (by omega) (lfT_first rfl) rfl rfl ?_
  refine v_dup fx dX8_init_1267 rfl rfl ?_
  refine v_iconst fx dX8_init_1268 rfl ?_
  refine v_sipush fx dX8_init_1269 (by decide +kernel) rfl ?_
  refine v_iast fx 5 (lfT mBO 2) [(h0, ob 8 [.ref q_1, .ref q_2, .ref q_3, .ref q_4, .null, .null, .null, .int (iI 0), .int (iI 0), .int (iI 0), .null, .null, .int (iI 0), .null, .int (iI 0), .int (iI 0), .null, .int (iI 0), .int (iI 0), .int (iI 0), .int (iI 0), .null, .null, .null, .null, .int (iI 0), .int (iI 0), .int (iI 0), .int (iI 0), .int (iI 0), .int (iI 0)]), (q_1, aI g 64 (lfT mW 64)), (q_2, aI g 64 (lfT mB 64)), (q_3, aI g 27 (lfT mWM 27)), (q_4, aI g 27 (lfT mBM 27)), (q_5, aI g 13 (lfT mBO 2))] dX8_init_1272 rfl (by omega) (by omega) (lfT_step (k := 1) rfl) rfl rfl ?_
  refine v_dup fx dX8_init_1273 rfl rfl ?_
  refine v_iconst fx dX8_init_1274 rfl ?_
  refine v_sipush fx dX8_init_1275 (by decide +kernel) rfl ?_
  refine v_iast fx 5 (lfT mBO 3) [(h0, ob 8 [.ref q_1, .ref q_2, .ref q_3, .ref q_4, .null, .null, .null, .int (iI 0), .int (iI 0), .int (iI 0), .null, .null, .int (iI 0), .null, .int (iI 0), .int (iI 0), .null, .int (iI 0), .int (iI 0), .int (iI 0), .int (iI 0), .null, .null, .null, .null, .int (iI 0), .int (iI 0), .int (iI 0), .int (iI 0), .int (iI 0), .int (iI 0)]), (q_1, aI g 64 (lfT mW 64)), (q_2, aI g 64 (lfT mB 64)), (q_3, aI g 27 (lfT mWM 27)), (q_4, aI g 27 (lfT mBM 27)), (q_5, aI g 13 (lfT mBO 3))] dX8_init_1278 rfl (by omega) (by omega) (lfT_step (k := 2) rfl) rfl rfl ?_
  refine v_dup fx dX8_init_1279 rfl rfl ?_
  refine v_iconst fx dX8_init_1280 rfl ?_
  refine v_sipush fx dX8_init_1281 (by decide +kernel) rfl ?_
  refine v_iast fx 5 (lfT mBO 4) [(h0, ob 8 [.ref q_1, .ref q_2, .ref q_3, .ref q_4, .null, .null, .null, .int (iI 0), .int (iI 0), .int (iI 0), .null, .null, .int (iI 0), .null, .int (iI 0), .int (iI 0), .null, .int (iI 0), .int (iI 0), .int (iI 0), .int (iI 0), .null, .null, .null, .null, .int (iI 0), .int (iI 0), .int (iI 0), .int (iI 0), .int (iI 0), .int (iI 0)]), (q_1, aI g 64 (lfT mW 64)), (q_2, aI g 64 (lfT mB 64)), (q_3, aI g 27 (lfT mWM 27)), (q_4, aI g 27 (lfT mBM 27)), (q_5, aI g 13 (lfT mBO 4))] dX8_init_1284 rfl (by omega) (by omega) (lfT_step (k := 3) rfl) rfl rfl ?_
  refine v_dup fx dX8_init_1285 rfl rfl ?_
  refine v_iconst fx dX8_init_1286 rfl ?_
  refine v_sipush fx dX8_init_1287 (by decide +kernel) rfl ?_
  refine v_iast fx 5 (lfT mBO 5) [(h0, ob 8 [.ref q_1, .ref q_2, .ref q_3, .ref q_4, .null, .null, .null, .int (iI 0), .int (iI 0), .int (iI 0), .null, .null, .int (iI 0), .null, .int (iI 0), .int (iI 0), .null, .int (iI 0), .int (iI 0), .int (iI 0), .int (iI 0), .null, .null, .null, .null, .int (iI 0), .int (iI 0), .int (iI 0), .int (iI 0), .int (iI 0), .int (iI 0)]), (q_1, aI g 64 (lfT mW 64)), (q_2, aI g 64 (lfT mB 64)), (q_3, aI g 27 (lfT mWM 27)), (q_4, aI g 27 (lfT mBM 27)), (q_5, aI g 13 (lfT mBO 5))] dX8_init_1290 rfl (by omega) (by omega) (lfT_step (k := 4) rfl) rfl rfl ?_
  refine v_dup fx dX8_init_1291 rfl rfl ?_
  refine v_iconst fx dX8_init_1292 rfl ?_
  refine v_sipush fx dX8_init_1293 (by decide +kernel) rfl ?_
  refine v_iast fx 5 (lfT mBO 6) [(h0, ob 8 [.ref q_1, .ref q_2, .ref q_3, .ref q_4, .null, .null, .null, .int (iI 0), .int (iI 0), .int (iI 0), .null, .null, .int (iI 0), .null, .int (iI 0), .int (iI 0), .null, .int (iI 0), .int (iI 0), .int (iI 0), .int (iI 0), .null, .null, .null, .null, .int (iI 0), .int (iI 0), .int (iI 0), .int (iI 0), .int (iI 0), .int (iI 0)]), (q_1, aI g 64 (lfT mW 64)), (q_2, aI g 64 (lfT mB 64)), (q_3, aI g 27 (lfT mWM 27)), (q_4, aI g 27 (lfT mBM 27)), (q_5, aI g 13 (lfT mBO 6))] dX8_init_1296 rfl (by omega) (by omega) (lfT_step (k := 5) rfl) rfl rfl ?_
  refine v_dup fx dX8_init_1297 rfl rfl ?_
  refine v_bipush fx dX8_init_1298 (by decide +kernel) rfl ?_
  refine v_sipush fx dX8_init_1300 (by decide +kernel) rfl ?_
  refine v_iast fx 5 (lfT mBO 7) [(h0, ob 8 [.ref q_1, .ref q_2, .ref q_3, .ref q_4, .null, .null, .null, .int (iI 0), .int (iI 0), .int (iI 0), .null, .null, .int (iI 0), .null, .int (iI 0), .int (iI 0), .null, .int (iI 0), .int (iI 0), .int (iI 0), .int (iI 0), .null, .null, .null, .null, .int (iI 0), .int (iI 0), .int (iI 0), .int (iI 0), .int (iI 0), .int (iI 0)]), (q_1, aI g 64 (lfT mW 64)), (q_2, aI g 64 (lfT mB 64)), (q_3, aI g 27 (lfT mWM 27)), (q_4, aI g 27 (lfT mBM 27)), (q_5, aI g 13 (lfT mBO 7))] dX8_init_1303 rfl (by omega) (by omega) (lfT_step (k := 6) rfl) rfl rfl ?_
  refine v_dup fx dX8_init_1304 rfl rfl ?_
  refine v_bipush fx dX8_init_1305 (by decide +kernel) rfl ?_
  refine v_sipush fx dX8_init_1307 (by decide +kernel) rfl ?_
  refine v_iast fx 5 (lfT mBO 8) [(h0, ob 8 [.ref q_1, .ref q_2, .ref q_3, .ref q_4, .null, .null, .null, .int (iI 0), .int (iI 0), .int (iI 0), .null, .null, .int (iI 0), .null, .int (iI 0), .int (iI 0), .null, .int (iI 0), .int (iI 0), .int (iI 0), .int (iI 0), .null, .null, .null, .null, .int (iI 0), .int (iI 0), .int (iI 0), .int (iI 0), .int (iI 0), .int (iI 0)]), (q_1, aI g 64 (lfT mW 64)), (q_2, aI g 64 (lfT mB 64)), (q_3, aI g 27 (lfT mWM 27)), (q_4, aI g 27 (lfT mBM 27)), (q_5, aI g 13 (lfT mBO 8))] dX8_init_1310 rfl (by omega) (by omega) (lfT_step (k := 7) rfl) rfl rfl ?_
  refine v_dup fx dX8_init_1311 rfl rfl ?_
  refine v_bipush fx dX8_init_1312 (by decide +kernel) rfl ?_
  refine v_sipush fx dX8_init_1314 (by decide +kernel) rfl ?_
  refine v_iast fx 5 (lfT mBO 9) [(h0, ob 8 [.ref q_1, .ref q_2, .ref q_3, .ref q_4, .null, .null, .null, .int (iI 0), .int (iI 0), .int (iI 0), .null, .null, .int (iI 0), .null, .int (iI 0), .int (iI 0), .null, .int (iI 0), .int (iI 0), .int (iI 0), .int (iI 0), .null, .null, .null, .null, .int (iI 0), .int (iI 0), .int (iI 0), .int (iI 0), .int (iI 0), .int (iI 0)]), (q_1, aI g 64 (lfT mW 64)), (q_2, aI g 64 (lfT mB 64)), (q_3, aI g 27 (lfT mWM 27)), (q_4, aI g 27 (lfT mBM 27)), (q_5, aI g 13 (lfT mBO 9))] dX8_init_1317 rfl (by omega) (by omega) (lfT_step (k := 8) rfl) rfl rfl ?_
  refine v_dup fx dX8_init_1318 rfl rfl ?_
  refine v_bipush fx dX8_init_1319 (by decide +kernel) rfl ?_
  refine v_sipush fx dX8_init_1321 (by decide +kernel) rfl ?_
  refine v_iast fx 5 (lfT mBO 10) [(h0, ob 8 [.ref q_1, .ref q_2, .ref q_3, .ref q_4, .null, .null, .null, .int (iI 0), .int (iI 0), .int (iI 0), .null, .null, .int (iI 0), .null, .int (iI 0), .int (iI 0), .null, .int (iI 0), .int (iI 0), .int (iI 0), .int (iI 0), .null, .null, .null, .null, .int (iI 0), .int (iI 0), .int (iI 0), .int (iI 0), .int (iI 0), .int (iI 0)]), (q_1, aI g 64 (lfT mW 64)), (q_2, aI g 64 (lfT mB 64)), (q_3, aI g 27 (lfT mWM 27)), (q_4, aI g 27 (lfT mBM 27)), (q_5, aI g 13 (lfT mBO 10))] dX8_init_1324 rfl (by omega) (by omega) (lfT_step (k := 9) rfl) rfl rfl ?_
  refine v_dup fx dX8_init_1325 rfl rfl ?_
  refine v_bipush fx dX8_init_1326 (by decide +kernel) rfl ?_
  refine v_sipush fx dX8_init_1328 (by decide +kernel) rfl ?_
  refine v_iast fx 5 (lfT mBO 11) [(h0, ob 8 [.ref q_1, .ref q_2, .ref q_3, .ref q_4, .null, .null, .null, .int (iI 0), .int (iI 0), .int (iI 0), .null, .null, .int (iI 0), .null, .int (iI 0), .int (iI 0), .null, .int (iI 0), .int (iI 0), .int (iI 0), .int (iI 0), .null, .null, .null, .null, .int (iI 0), .int (iI 0), .int (iI 0), .int (iI 0), .int (iI 0), .int (iI 0)]), (q_1, aI g 64 (lfT mW 64)), (q_2, aI g 64 (lfT mB 64)), (q_3, aI g 27 (lfT mWM 27)), (q_4, aI g 27 (lfT mBM 27)), (q_5, aI g 13 (lfT mBO 11))] dX8_init_1331 rfl (by omega) (by omega) (lfT_step (k := 10) rfl) rfl rfl ?_
  refine v_dup fx dX8_init_1332 rfl rfl ?_
  refine v_bipush fx dX8_init_1333 (by decide +kernel) rfl ?_
  refine v_sipush fx dX8_init_1335 (by decide +kernel) rfl ?_
  refine v_iast fx 5 (lfT mBO 12) [(h0, ob 8 [.ref q_1, .ref q_2, .ref q_3, .ref q_4, .null, .null, .null, .int (iI 0), .int (iI 0), .int (iI 0), .null, .null, .int (iI 0), .null, .int (iI 0), .int (iI 0), .null, .int (iI 0), .int (iI 0), .int (iI 0), .int (iI 0), .null, .null, .null, .null, .int (iI 0), .int (iI 0), .int (iI 0), .int (iI 0), .int (iI 0), .int (iI 0)]), (q_1, aI g 64 (lfT mW 64)), (q_2, aI g 64 (lfT mB 64)), (q_3, aI g 27 (lfT mWM 27)), (q_4, aI g 27 (lfT mBM 27)), (q_5, aI g 13 (lfT mBO 12))] dX8_init_1338 rfl (by omega) (by omega) (lfT_step (k := 11) rfl) rfl rfl ?_
  refine v_dup fx dX8_init_1339 rfl rfl ?_
  refine v_bipush fx dX8_init_1340 (by decide +kernel) rfl ?_
  refine v_sipush fx dX8_init_1342 (by decide +kernel) rfl ?_
  refine v_iast fx 5 (lfT mBO 13) [(h0, ob 8 [.ref q_1, .ref q_2, .ref q_3, .ref q_4, .null, .null, .null, .int (iI 0), .int (iI 0), .int (iI 0), .null, .null, .int (iI 0), .null, .int (iI 0), .int (iI 0), .null, .int (iI 0), .int (iI 0), .int (iI 0), .int (iI 0), .null, .null, .null, .null, .int (iI 0), .int (iI 0), .int (iI 0), .int (iI 0), .int (iI 0), .int (iI 0)]), (q_1, aI g 64 (lfT mW 64)), (q_2, aI g 64 (lfT mB 64)), (q_3, aI g 27 (lfT mWM 27)), (q_4, aI g 27 (lfT mBM 27)), (q_5, aI g 13 (lfT mBO 13))] dX8_init_1345 rfl (by omega) (by omega) (lfT_step (k := 12) rfl) rfl rfl ?_
  refine v_putF fx 0 4 [(h0, ob 8 [.ref q_1, .ref q_2, .ref q_3, .ref q_4, .ref q_5, .null, .null, .int (iI 0), .int (iI 0), .int (iI 0), .null, .null, .int (iI 0), .null, .int (iI 0), .int (iI 0), .null, .int (iI 0), .int (iI 0), .int (iI 0), .int (iI 0), .null, .null, .null, .null, .int (iI 0), .int (iI 0), .int (iI 0), .int (iI 0), .int (iI 0), .int (iI 0)]), (q_1, aI g 64 (lfT mW 64)), (q_2, aI g 64 (lfT mB 64)), (q_3, aI g 27 (lfT mWM 27)), (q_4, aI g 27 (lfT mBM 27)), (q_5, aI g 13 (lfT mBO 13))] hnm inX8 tyX8_ok nmX8 k1000 dX8_init_1346 rfl rfl (by decide) rfl rfl rfl rfl rfl (nl rfl) rfl rfl ?_
  refine v_aload_n fx 0 dX8_init_1349 rfl rfl ?_
  refine v_sipush fx dX8_init_1350 (by decide +kernel) rfl ?_
  refine v_newa fx 0 .int 16384 (16384, .inl (fun _ => 0)) 6 16579 k98 dX8_init_1353 rfl rfl rfl (by omega) rfl (fun cA => arr0_int cA _) (by decide) (nl rfl) (nl rfl) rfl rfl rfl (fun q_6 => ?_)
  refine v_is (wn := [(h0, ob 8 [.ref q_1, .ref q_2, .ref q_3, .ref q_4, .ref q_5, .null, .null, .int (iI 0), .int (iI 0), .int (iI 0), .null, .null, .int (iI 0), .null, .int (iI 0), .int (iI 0), .null, .int (iI 0), .int (iI 0), .int (iI 0), .int (iI 0), .null, .null, .null, .null, .int (iI 0), .int (iI 0), .int (iI 0), .int (iI 0), .int (iI 0), .int (iI 0)]), (q_1, aI g 64 (lfT mW 64)), (q_2, aI g 64 (lfT mB 64)), (q_3, aI g 27 (lfT mWM 27)), (q_4, aI g 27 (lfT mBM 27)), (q_5, aI g 13 (lfT mBO 13)), (q_6, aI g 16384 (fun _ => 0))]) (cn := 6) (sn := 16579) (sn2 := [.ref q_6, .ref h0]) rfl rfl rfl rfl ?_
  refine v_putF fx 0 5 [(h0, ob 8 [.ref q_1, .ref q_2, .ref q_3, .ref q_4, .ref q_5, .ref q_6, .null, .int (iI 0), .int (iI 0), .int (iI 0), .null, .null, .int (iI 0), .null, .int (iI 0), .int (iI 0), .null, .int (iI 0), .int (iI 0), .int (iI 0), .int (iI 0), .null, .null, .null, .null, .int (iI 0), .int (iI 0), .int (iI 0), .int (iI 0), .int (iI 0), .int (iI 0)]), (q_1, aI g 64 (lfT mW 64)), (q_2, aI g 64 (lfT mB 64)), (q_3, aI g 27 (lfT mWM 27)), (q_4, aI g 27 (lfT mBM 27)), (q_5, aI g 13 (lfT mBO 13)), (q_6, aI g 16384 (fun _ => 0))] hnm inX8 tyX8_ok nmX8 k1001 dX8_init_1355 rfl rfl (by decide) rfl rfl rfl rfl rfl (nl rfl) rfl rfl ?_
  refine v_aload_n fx 0 dX8_init_1358 rfl rfl ?_
  refine v_sipush fx dX8_init_1359 (by decide +kernel) rfl ?_
  refine v_newa fx 0 .int 16384 (16384, .inl (fun _ => 0)) 7 32963 k98 dX8_init_1362 rfl rfl rfl (by omega) rfl (fun cA => arr0_int cA _) (by decide) (nl rfl) (nl rfl) rfl rfl rfl (fun q_7 => ?_)
  refine v_is (wn := [(h0, ob 8 [.ref q_1, .ref q_2, .ref q_3, .ref q_4, .ref q_5, .ref q_6, .null, .int (iI 0), .int (iI 0), .int (iI 0), .null, .null, .int (iI 0), .null, .int (iI 0), .int (iI 0), .null, .int (iI 0), .int (iI 0), .int (iI 0), .int (iI 0), .null, .null, .null, .null, .int (iI 0), .int (iI 0), .int (iI 0), .int (iI 0), .int (iI 0), .int (iI 0)]), (q_1, aI g 64 (lfT mW 64)), (q_2, aI g 64 (lfT mB 64)), (q_3, aI g 27 (lfT mWM 27)), (q_4, aI g 27 (lfT mBM 27)), (q_5, aI g 13 (lfT mBO 13)), (q_6, aI g 16384 (fun _ => 0)), (q_7, aI g 16384 (fun _ => 0))]) (cn := 7) (sn := 32963) (sn2 := [.ref q_7, .ref h0]) rfl rfl rfl rfl ?_
  refine v_putF fx 0 6 [(h0, ob 8 [.ref q_1, .ref q_2, .ref q_3, .ref q_4, .ref q_5, .ref q_6, .ref q_7, .int (iI 0), .int (iI 0), .int (iI 0), .null, .null, .int (iI 0), .null, .int (iI 0), .int (iI 0), .null, .int (iI 0), .int (iI 0), .int (iI 0), .int (iI 0), .null, .null, .null, .null, .int (iI 0), .int (iI 0), .int (iI 0), .int (iI 0), .int (iI 0), .int (iI 0)]), (q_1, aI g 64 (lfT mW 64)), (q_2, aI g 64 (lfT mB 64)), (q_3, aI g 27 (lfT mWM 27)), (q_4, aI g 27 (lfT mBM 27)), (q_5, aI g 13 (lfT mBO 13)), (q_6, aI g 16384 (fun _ => 0)), (q_7, aI g 16384 (fun _ => 0))] hnm inX8 tyX8_ok nmX8 k1002 dX8_init_1364 rfl rfl (by decide) rfl rfl rfl rfl rfl (nl rfl) rfl rfl ?_
  refine v_aload_n fx 0 dX8_init_1367 rfl rfl ?_
  refine v_sipush fx dX8_init_1368 (by decide +kernel) rfl ?_
  refine v_newa fx 2 .boolean 3000 (3000, .inl (fun _ => 0)) 8 35963 k200 dX8_init_1371 rfl rfl rfl (by omega) rfl (fun cA => arr0_boolean cA _) (by decide) (nl rfl) (nl rfl) rfl rfl rfl (fun q_8 => ?_)
  refine v_is (wn := [(h0, ob 8 [.ref q_1, .ref q_2, .ref q_3, .ref q_4, .ref q_5, .ref q_6, .ref q_7, .int (iI 0), .int (iI 0), .int (iI 0), .null, .null, .int (iI 0), .null, .int (iI 0), .int (iI 0), .null, .int (iI 0), .int (iI 0), .int (iI 0), .int (iI 0), .null, .null, .null, .null, .int (iI 0), .int (iI 0), .int (iI 0), .int (iI 0), .int (iI 0), .int (iI 0)]), (q_1, aI g 64 (lfT mW 64)), (q_2, aI g 64 (lfT mB 64)), (q_3, aI g 27 (lfT mWM 27)), (q_4, aI g 27 (lfT mBM 27)), (q_5, aI g 13 (lfT mBO 13)), (q_6, aI g 16384 (fun _ => 0)), (q_7, aI g 16384 (fun _ => 0)), (q_8, aZ g 3000 (fun _ => 0))]) (cn := 8) (sn := 35963) (sn2 := [.ref q_8, .ref h0]) rfl rfl rfl rfl ?_
  refine v_putF fx 0 10 [(h0, ob 8 [.ref q_1, .ref q_2, .ref q_3, .ref q_4, .ref q_5, .ref q_6, .ref q_7, .int (iI 0), .int (iI 0), .int (iI 0), .ref q_8, .null, .int (iI 0), .null, .int (iI 0), .int (iI 0), .null, .int (iI 0), .int (iI 0), .int (iI 0), .int (iI 0), .null, .null, .null, .null, .int (iI 0), .int (iI 0), .int (iI 0), .int (iI 0), .int (iI 0), .int (iI 0)]), (q_1, aI g 64 (lfT mW 64)), (q_2, aI g 64 (lfT mB 64)), (q_3, aI g 27 (lfT mWM 27)), (q_4, aI g 27 (lfT mBM 27)), (q_5, aI g 13 (lfT mBO 13)), (q_6, aI g 16384 (fun _ => 0)), (q_7, aI g 16384 (fun _ => 0)), (q_8, aZ g 3000 (fun _ => 0))] hnm inX8 tyX8_ok nmX8 k1006 dX8_init_1373 rfl rfl (by decide) rfl rfl rfl rfl rfl (nl rfl) rfl rfl ?_
  refine v_aload_n fx 0 dX8_init_1376 rfl rfl ?_
  refine v_ldc (n := 72000) fx dX8_init_1377 k993 rfl ?_
  refine v_newa fx 2 .boolean 72000 (72000, .inl (fun _ => 0)) 9 107963 k200 dX8_init_1379 rfl rfl rfl (by omega) rfl (fun cA => arr0_boolean cA _) (by decide) (nl rfl) (nl rfl) rfl rfl rfl (fun q_9 => ?_)
  refine v_is (wn := [(h0, ob 8 [.ref q_1, .ref q_2, .ref q_3, .ref q_4, .ref q_5, .ref q_6, .ref q_7, .int (iI 0), .int (iI 0), .int (iI 0), .ref q_8, .null, .int (iI 0), .null, .int (iI 0), .int (iI 0), .null, .int (iI 0), .int (iI 0), .int (iI 0), .int (iI 0), .null, .null, .null, .null, .int (iI 0), .int (iI 0), .int (iI 0), .int (iI 0), .int (iI 0), .int (iI 0)]), (q_1, aI g 64 (lfT mW 64)), (q_2, aI g 64 (lfT mB 64)), (q_3, aI g 27 (lfT mWM 27)), (q_4, aI g 27 (lfT mBM 27)), (q_5, aI g 13 (lfT mBO 13)), (q_6, aI g 16384 (fun _ => 0)), (q_7, aI g 16384 (fun _ => 0)), (q_8, aZ g 3000 (fun _ => 0)), (q_9, aZ g 72000 (fun _ => 0))]) (cn := 9) (sn := 107963) (sn2 := [.ref q_9, .ref h0]) rfl rfl rfl rfl ?_
  refine v_putF fx 0 11 [(h0, ob 8 [.ref q_1, .ref q_2, .ref q_3, .ref q_4, .ref q_5, .ref q_6, .ref q_7, .int (iI 0), .int (iI 0), .int (iI 0), .ref q_8, .ref q_9, .int (iI 0), .null, .int (iI 0), .int (iI 0), .null, .int (iI 0), .int (iI 0), .int (iI 0), .int (iI 0), .null, .null, .null, .null, .int (iI 0), .int (iI 0), .int (iI 0), .int (iI 0), .int (iI 0), .int (iI 0)]), (q_1, aI g 64 (lfT mW 64)), (q_2, aI g 64 (lfT mB 64)), (q_3, aI g 27 (lfT mWM 27)), (q_4, aI g 27 (lfT mBM 27)), (q_5, aI g 13 (lfT mBO 13)), (q_6, aI g 16384 (fun _ => 0)), (q_7, aI g 16384 (fun _ => 0)), (q_8, aZ g 3000 (fun _ => 0)), (q_9, aZ g 72000 (fun _ => 0))] hnm inX8 tyX8_ok nmX8 k1007 dX8_init_1381 rfl rfl (by decide) rfl rfl rfl rfl rfl (nl rfl) rfl rfl ?_
  refine v_aload_n fx 0 dX8_init_1384 rfl rfl ?_
  refine v_ldc (n := 72000) fx dX8_init_1385 k993 rfl ?_
  refine v_newa fx 0 .int 72000 (72000, .inl (fun _ => 0)) 10 179963 k98 dX8_init_1387 rfl rfl rfl (by omega) rfl (fun cA => arr0_int cA _) (by decide) (nl rfl) (nl rfl) rfl rfl rfl (fun q_10 => ?_)
  refine v_is (wn := [(h0, ob 8 [.ref q_1, .ref q_2, .ref q_3, .ref q_4, .ref q_5, .ref q_6, .ref q_7, .int (iI 0), .int (iI 0), .int (iI 0), .ref q_8, .ref q_9, .int (iI 0), .null, .int (iI 0), .int (iI 0), .null, .int (iI 0), .int (iI 0), .int (iI 0), .int (iI 0), .null, .null, .null, .null, .int (iI 0), .int (iI 0), .int (iI 0), .int (iI 0), .int (iI 0), .int (iI 0)]), (q_1, aI g 64 (lfT mW 64)), (q_2, aI g 64 (lfT mB 64)), (q_3, aI g 27 (lfT mWM 27)), (q_4, aI g 27 (lfT mBM 27)), (q_5, aI g 13 (lfT mBO 13)), (q_6, aI g 16384 (fun _ => 0)), (q_7, aI g 16384 (fun _ => 0)), (q_8, aZ g 3000 (fun _ => 0)), (q_9, aZ g 72000 (fun _ => 0)), (q_10, aI g 72000 (fun _ => 0))]) (cn := 10) (sn := 179963) (sn2 := [.ref q_10, .ref h0]) rfl rfl rfl rfl ?_
  refine v_putF fx 0 13 [(h0, ob 8 [.ref q_1, .ref q_2, .ref q_3, .ref q_4, .ref q_5, .ref q_6, .ref q_7, .int (iI 0), .int (iI 0), .int (iI 0), .ref q_8, .ref q_9, .int (iI 0), .ref q_10, .int (iI 0), .int (iI 0), .null, .int (iI 0), .int (iI 0), .int (iI 0), .int (iI 0), .null, .null, .null, .null, .int (iI 0), .int (iI 0), .int (iI 0), .int (iI 0), .int (iI 0), .int (iI 0)]), (q_1, aI g 64 (lfT mW 64)), (q_2, aI g 64 (lfT mB 64)), (q_3, aI g 27 (lfT mWM 27)), (q_4, aI g 27 (lfT mBM 27)), (q_5, aI g 13 (lfT mBO 13)), (q_6, aI g 16384 (fun _ => 0)), (q_7, aI g 16384 (fun _ => 0)), (q_8, aZ g 3000 (fun _ => 0)), (q_9, aZ g 72000 (fun _ => 0)), (q_10, aI g 72000 (fun _ => 0))] hnm inX8 tyX8_ok nmX8 k1009 dX8_init_1389 rfl rfl (by decide) rfl rfl rfl rfl rfl (nl rfl) rfl rfl ?_
  refine v_aload_n fx 0 dX8_init_1392 rfl rfl ?_
  refine v_sipush fx dX8_init_1393 (by decide +kernel) rfl ?_
  refine v_newa fx 0 .int 2000 (2000, .inl (fun _ => 0)) 11 181963 k98 dX8_init_1396 rfl rfl rfl (by omega) rfl (fun cA => arr0_int cA _) (by decide) (nl rfl) (nl rfl) rfl rfl rfl (fun q_11 => ?_)
  refine v_is (wn := [(h0, ob 8 [.ref q_1, .ref q_2, .ref q_3, .ref q_4, .ref q_5, .ref q_6, .ref q_7, .int (iI 0), .int (iI 0), .int (iI 0), .ref q_8, .ref q_9, .int (iI 0), .ref q_10, .int (iI 0), .int (iI 0), .null, .int (iI 0), .int (iI 0), .int (iI 0), .int (iI 0), .null, .null, .null, .null, .int (iI 0), .int (iI 0), .int (iI 0), .int (iI 0), .int (iI 0), .int (iI 0)]), (q_1, aI g 64 (lfT mW 64)), (q_2, aI g 64 (lfT mB 64)), (q_3, aI g 27 (lfT mWM 27)), (q_4, aI g 27 (lfT mBM 27)), (q_5, aI g 13 (lfT mBO 13)), (q_6, aI g 16384 (fun _ => 0)), (q_7, aI g 16384 (fun _ => 0)), (q_8, aZ g 3000 (fun _ => 0)), (q_9, aZ g 72000 (fun _ => 0)), (q_10, aI g 72000 (fun _ => 0)), (q_11, aI g 2000 (fun _ => 0))]) (cn := 11) (sn := 181963) (sn2 := [.ref q_11, .ref h0]) rfl rfl rfl rfl ?_
  refine v_putF fx 0 16 [(h0, ob 8 [.ref q_1, .ref q_2, .ref q_3, .ref q_4, .ref q_5, .ref q_6, .ref q_7, .int (iI 0), .int (iI 0), .int (iI 0), .ref q_8, .ref q_9, .int (iI 0), .ref q_10, .int (iI 0), .int (iI 0), .ref q_11, .int (iI 0), .int (iI 0), .int (iI 0), .int (iI 0), .null, .null, .null, .null, .int (iI 0), .int (iI 0), .int (iI 0), .int (iI 0), .int (iI 0), .int (iI 0)]), (q_1, aI g 64 (lfT mW 64)), (q_2, aI g 64 (lfT mB 64)), (q_3, aI g 27 (lfT mWM 27)), (q_4, aI g 27 (lfT mBM 27)), (q_5, aI g 13 (lfT mBO 13)), (q_6, aI g 16384 (fun _ => 0)), (q_7, aI g 16384 (fun _ => 0)), (q_8, aZ g 3000 (fun _ => 0)), (q_9, aZ g 72000 (fun _ => 0)), (q_10, aI g 72000 (fun _ => 0)), (q_11, aI g 2000 (fun _ => 0))] hnm inX8 tyX8_ok nmX8 k1012 dX8_init_1398 rfl rfl (by decide) rfl rfl rfl rfl rfl (nl rfl) rfl rfl ?_
  refine v_aload_n fx 0 dX8_init_1401 rfl rfl ?_
  refine v_ldc (n := 75000) fx dX8_init_1402 k994 rfl ?_
  refine v_newa fx 2 .boolean 75000 (75000, .inl (fun _ => 0)) 12 256963 k200 dX8_init_1404 rfl rfl rfl (by omega) rfl (fun cA => arr0_boolean cA _) (by decide) (nl rfl) (nl rfl) rfl rfl rfl (fun q_12 => ?_)
  refine v_is (wn := [(h0, ob 8 [.ref q_1, .ref q_2, .ref q_3, .ref q_4, .ref q_5, .ref q_6, .ref q_7, .int (iI 0), .int (iI 0), .int (iI 0), .ref q_8, .ref q_9, .int (iI 0), .ref q_10, .int (iI 0), .int (iI 0), .ref q_11, .int (iI 0), .int (iI 0), .int (iI 0), .int (iI 0), .null, .null, .null, .null, .int (iI 0), .int (iI 0), .int (iI 0), .int (iI 0), .int (iI 0), .int (iI 0)]), (q_1, aI g 64 (lfT mW 64)), (q_2, aI g 64 (lfT mB 64)), (q_3, aI g 27 (lfT mWM 27)), (q_4, aI g 27 (lfT mBM 27)), (q_5, aI g 13 (lfT mBO 13)), (q_6, aI g 16384 (fun _ => 0)), (q_7, aI g 16384 (fun _ => 0)), (q_8, aZ g 3000 (fun _ => 0)), (q_9, aZ g 72000 (fun _ => 0)), (q_10, aI g 72000 (fun _ => 0)), (q_11, aI g 2000 (fun _ => 0)), (q_12, aZ g 75000 (fun _ => 0))]) (cn := 12) (sn := 256963) (sn2 := [.ref q_12, .ref h0]) rfl rfl rfl rfl ?_
  refine v_putF fx 0 21 [(h0, ob 8 [.ref q_1, .ref q_2, .ref q_3, .ref q_4, .ref q_5, .ref q_6, .ref q_7, .int (iI 0), .int (iI 0), .int (iI 0), .ref q_8, .ref q_9, .int (iI 0), .ref q_10, .int (iI 0), .int (iI 0), .ref q_11, .int (iI 0), .int (iI 0), .int (iI 0), .int (iI 0), .ref q_12, .null, .null, .null, .int (iI 0), .int (iI 0), .int (iI 0), .int (iI 0), .int (iI 0), .int (iI 0)]), (q_1, aI g 64 (lfT mW 64)), (q_2, aI g 64 (lfT mB 64)), (q_3, aI g 27 (lfT mWM 27)), (q_4, aI g 27 (lfT mBM 27)), (q_5, aI g 13 (lfT mBO 13)), (q_6, aI g 16384 (fun _ => 0)), (q_7, aI g 16384 (fun _ => 0)), (q_8, aZ g 3000 (fun _ => 0)), (q_9, aZ g 72000 (fun _ => 0)), (q_10, aI g 72000 (fun _ => 0)), (q_11, aI g 2000 (fun _ => 0)), (q_12, aZ g 75000 (fun _ => 0))] hnm inX8 tyX8_ok nmX8 k1017 dX8_init_1406 rfl rfl (by decide) rfl rfl rfl rfl rfl (nl rfl) rfl rfl ?_
  refine v_aload_n fx 0 dX8_init_1409 rfl rfl ?_
  refine v_bipush fx dX8_init_1410 (by decide +kernel) rfl ?_
  refine v_newa fx 2 .boolean 25 (25, .inl (fun _ => 0)) 13 256988 k200 dX8_init_1412 rfl rfl rfl (by omega) rfl (fun cA => arr0_boolean cA _) (by decide) (nl rfl) (nl rfl) rfl rfl rfl (fun q_13 => ?_)
  refine v_is (wn := [(h0, ob 8 [.ref q_1, .ref q_2, .ref q_3, .ref q_4, .ref q_5, .ref q_6, .ref q_7, .int (iI 0), .int (iI 0), .int (iI 0), .ref q_8, .ref q_9, .int (iI 0), .ref q_10, .int (iI 0), .int (iI 0), .ref q_11, .int (iI 0), .int (iI 0), .int (iI 0), .int (iI 0), .ref q_12, .null, .null, .null, .int (iI 0), .int (iI 0), .int (iI 0), .int (iI 0), .int (iI 0), .int (iI 0)]), (q_1, aI g 64 (lfT mW 64)), (q_2, aI g 64 (lfT mB 64)), (q_3, aI g 27 (lfT mWM 27)), (q_4, aI g 27 (lfT mBM 27)), (q_5, aI g 13 (lfT mBO 13)), (q_6, aI g 16384 (fun _ => 0)), (q_7, aI g 16384 (fun _ => 0)), (q_8, aZ g 3000 (fun _ => 0)), (q_9, aZ g 72000 (fun _ => 0)), (q_10, aI g 72000 (fun _ => 0)), (q_11, aI g 2000 (fun _ => 0)), (q_12, aZ g 75000 (fun _ => 0)), (q_13, aZ g 25 (fun _ => 0))]) (cn := 13) (sn := 256988) (sn2 := [.ref q_13, .ref h0]) rfl rfl rfl rfl ?_
  refine v_putF fx 0 22 [(h0, ob 8 [.ref q_1, .ref q_2, .ref q_3, .ref q_4, .ref q_5, .ref q_6, .ref q_7, .int (iI 0), .int (iI 0), .int (iI 0), .ref q_8, .ref q_9, .int (iI 0), .ref q_10, .int (iI 0), .int (iI 0), .ref q_11, .int (iI 0), .int (iI 0), .int (iI 0), .int (iI 0), .ref q_12, .ref q_13, .null, .null, .int (iI 0), .int (iI 0), .int (iI 0), .int (iI 0), .int (iI 0), .int (iI 0)]), (q_1, aI g 64 (lfT mW 64)), (q_2, aI g 64 (lfT mB 64)), (q_3, aI g 27 (lfT mWM 27)), (q_4, aI g 27 (lfT mBM 27)), (q_5, aI g 13 (lfT mBO 13)), (q_6, aI g 16384 (fun _ => 0)), (q_7, aI g 16384 (fun _ => 0)), (q_8, aZ g 3000 (fun _ => 0)), (q_9, aZ g 72000 (fun _ => 0)), (q_10, aI g 72000 (fun _ => 0)), (q_11, aI g 2000 (fun _ => 0)), (q_12, aZ g 75000 (fun _ => 0)), (q_13, aZ g 25 (fun _ => 0))] hnm inX8 tyX8_ok nmX8 k1018 dX8_init_1414 rfl rfl (by decide) rfl rfl rfl rfl rfl (nl rfl) rfl rfl ?_
  refine v_aload_n fx 0 dX8_init_1417 rfl rfl ?_
  refine v_ldc (n := 75100) fx dX8_init_1418 k995 rfl ?_
  refine v_newa fx 0 .int 75100 (75100, .inl (fun _ => 0)) 14 332088 k98 dX8_init_1420 rfl rfl rfl (by omega) rfl (fun cA => arr0_int cA _) (by decide) (nl rfl) (nl rfl) rfl rfl rfl (fun q_14 => ?_)
  refine v_is (wn := [(h0, ob 8 [.ref q_1, .ref q_2, .ref q_3, .ref q_4, .ref q_5, .ref q_6, .ref q_7, .int (iI 0), .int (iI 0), .int (iI 0), .ref q_8, .ref q_9, .int (iI 0), .ref q_10, .int (iI 0), .int (iI 0), .ref q_11, .int (iI 0), .int (iI 0), .int (iI 0), .int (iI 0), .ref q_12, .ref q_13, .null, .null, .int (iI 0), .int (iI 0), .int (iI 0), .int (iI 0), .int (iI 0), .int (iI 0)]), (q_1, aI g 64 (lfT mW 64)), (q_2, aI g 64 (lfT mB 64)), (q_3, aI g 27 (lfT mWM 27)), (q_4, aI g 27 (lfT mBM 27)), (q_5, aI g 13 (lfT mBO 13)), (q_6, aI g 16384 (fun _ => 0)), (q_7, aI g 16384 (fun _ => 0)), (q_8, aZ g 3000 (fun _ => 0)), (q_9, aZ g 72000 (fun _ => 0)), (q_10, aI g 72000 (fun _ => 0)), (q_11, aI g 2000 (fun _ => 0)), (q_12, aZ g 75000 (fun _ => 0)), (q_13, aZ g 25 (fun _ => 0)), (q_14, aI g 75100 (fun _ => 0))]) (cn := 14) (sn := 332088) (sn2 := [.ref q_14, .ref h0]) rfl rfl rfl rfl ?_
  refine v_putF fx 0 23 [(h0, ob 8 [.ref q_1, .ref q_2, .ref q_3, .ref q_4, .ref q_5, .ref q_6, .ref q_7, .int (iI 0), .int (iI 0), .int (iI 0), .ref q_8, .ref q_9, .int (iI 0), .ref q_10, .int (iI 0), .int (iI 0), .ref q_11, .int (iI 0), .int (iI 0), .int (iI 0), .int (iI 0), .ref q_12, .ref q_13, .ref q_14, .null, .int (iI 0), .int (iI 0), .int (iI 0), .int (iI 0), .int (iI 0), .int (iI 0)]), (q_1, aI g 64 (lfT mW 64)), (q_2, aI g 64 (lfT mB 64)), (q_3, aI g 27 (lfT mWM 27)), (q_4, aI g 27 (lfT mBM 27)), (q_5, aI g 13 (lfT mBO 13)), (q_6, aI g 16384 (fun _ => 0)), (q_7, aI g 16384 (fun _ => 0)), (q_8, aZ g 3000 (fun _ => 0)), (q_9, aZ g 72000 (fun _ => 0)), (q_10, aI g 72000 (fun _ => 0)), (q_11, aI g 2000 (fun _ => 0)), (q_12, aZ g 75000 (fun _ => 0)), (q_13, aZ g 25 (fun _ => 0)), (q_14, aI g 75100 (fun _ => 0))] hnm inX8 tyX8_ok nmX8 k1019 dX8_init_1422 rfl rfl (by decide) rfl rfl rfl rfl rfl (nl rfl) rfl rfl ?_
  refine v_aload_n fx 0 dX8_init_1425 rfl rfl ?_
  refine v_bipush fx dX8_init_1426 (by decide +kernel) rfl ?_
  refine v_newa fx 0 .int 25 (25, .inl (fun _ => 0)) 15 332113 k98 dX8_init_1428 rfl rfl rfl (by omega) rfl (fun cA => arr0_int cA _) (by decide) (nl rfl) (nl rfl) rfl rfl rfl (fun q_15 => ?_)
  refine v_is (wn := [(h0, ob 8 [.ref q_1, .ref q_2, .ref q_3, .ref q_4, .ref q_5, .ref q_6, .ref q_7, .int (iI 0), .int (iI 0), .int (iI 0), .ref q_8, .ref q_9, .int (iI 0), .ref q_10, .int (iI 0), .int (iI 0), .ref q_11, .int (iI 0), .int (iI 0), .int (iI 0), .int (iI 0), .ref q_12, .ref q_13, .ref q_14, .null, .int (iI 0), .int (iI 0), .int (iI 0), .int (iI 0), .int (iI 0), .int (iI 0)]), (q_1, aI g 64 (lfT mW 64)), (q_2, aI g 64 (lfT mB 64)), (q_3, aI g 27 (lfT mWM 27)), (q_4, aI g 27 (lfT mBM 27)), (q_5, aI g 13 (lfT mBO 13)), (q_6, aI g 16384 (fun _ => 0)), (q_7, aI g 16384 (fun _ => 0)), (q_8, aZ g 3000 (fun _ => 0)), (q_9, aZ g 72000 (fun _ => 0)), (q_10, aI g 72000 (fun _ => 0)), (q_11, aI g 2000 (fun _ => 0)), (q_12, aZ g 75000 (fun _ => 0)), (q_13, aZ g 25 (fun _ => 0)), (q_14, aI g 75100 (fun _ => 0)), (q_15, aI g 25 (fun _ => 0))]) (cn := 15) (sn := 332113) (sn2 := [.ref q_15, .ref h0]) rfl rfl rfl rfl ?_
  refine v_putF fx 0 24 [(h0, ob 8 [.ref q_1, .ref q_2, .ref q_3, .ref q_4, .ref q_5, .ref q_6, .ref q_7, .int (iI 0), .int (iI 0), .int (iI 0), .ref q_8, .ref q_9, .int (iI 0), .ref q_10, .int (iI 0), .int (iI 0), .ref q_11, .int (iI 0), .int (iI 0), .int (iI 0), .int (iI 0), .ref q_12, .ref q_13, .ref q_14, .ref q_15, .int (iI 0), .int (iI 0), .int (iI 0), .int (iI 0), .int (iI 0), .int (iI 0)]), (q_1, aI g 64 (lfT mW 64)), (q_2, aI g 64 (lfT mB 64)), (q_3, aI g 27 (lfT mWM 27)), (q_4, aI g 27 (lfT mBM 27)), (q_5, aI g 13 (lfT mBO 13)), (q_6, aI g 16384 (fun _ => 0)), (q_7, aI g 16384 (fun _ => 0)), (q_8, aZ g 3000 (fun _ => 0)), (q_9, aZ g 72000 (fun _ => 0)), (q_10, aI g 72000 (fun _ => 0)), (q_11, aI g 2000 (fun _ => 0)), (q_12, aZ g 75000 (fun _ => 0)), (q_13, aZ g 25 (fun _ => 0)), (q_14, aI g 75100 (fun _ => 0)), (q_15, aI g 25 (fun _ => 0))] hnm inX8 tyX8_ok nmX8 k1020 dX8_init_1430 rfl rfl (by decide) rfl rfl rfl rfl rfl (nl rfl) rfl rfl ?_
  refine v_aload_n fx 0 dX8_init_1433 rfl rfl ?_
  refine v_iload_n fx 1 dX8_init_1434 rfl rfl ?_
  have J1435 : ∀ (kz : Int), ((kk < 0 ∧ kz = 0) ∨ (0 ≤ kk ∧ kk ≤ 2 ∧ kz = kk) ∨ (2 < kk ∧ kz = 2)) → V p9 l e9 (rmD 1 15 400000) s9 m9 ag9 bl9 mt9 c9 4 g A9 (MQ bl9 (cQ g (po_c_X8_init g h0 kk ww) A9) ag9 s9 15 400000 A9) [(h0, ob 8 [.ref q_1, .ref q_2, .ref q_3, .ref q_4, .ref q_5, .ref q_6, .ref q_7, .int (iI 0), .int (iI 0), .int (iI 0), .ref q_8, .ref q_9, .int (iI 0), .ref q_10, .int (iI 0), .int (iI 0), .ref q_11, .int (iI 0), .int (iI 0), .int (iI 0), .int (iI 0), .ref q_12, .ref q_13, .ref q_14, .ref q_15, .int (iI 0), .int (iI 0), .int (iI 0), .int (iI 0), .int (iI 0), .int (iI 0)]), (q_1, aI g 64 (lfT mW 64)), (q_2, aI g 64 (lfT mB 64)), (q_3, aI g 27 (lfT mWM 27)), (q_4, aI g 27 (lfT mBM 27)), (q_5, aI g 13 (lfT mBO 13)), (q_6, aI g 16384 (fun _ => 0)), (q_7, aI g 16384 (fun _ => 0)), (q_8, aZ g 3000 (fun _ => 0)), (q_9, aZ g 72000 (fun _ => 0)), (q_10, aI g 72000 (fun _ => 0)), (q_11, aI g 2000 (fun _ => 0)), (q_12, aZ g 75000 (fun _ => 0)), (q_13, aZ g 25 (fun _ => 0)), (q_14, aI g 75100 (fun _ => 0)), (q_15, aI g 25 (fun _ => 0))] 15 332113 [(0, .ref h0), (1, .int (iI kk)), (2, .int (iI ww))] 1452 [.int (iI kz), .ref h0] := by
    intro kz hj1435_0
    refine v_putF fx 0 8 [(h0, ob 8 [.ref q_1, .ref q_2, .ref q_3, .ref q_4, .ref q_5, .ref q_6, .ref q_7, .int (iI 0), .int (iI kz), .int (iI 0), .ref q_8, .ref q_9, .int (iI 0), .ref q_10, .int (iI 0), .int (iI 0), .ref q_11, .int (iI 0), .int (iI 0), .int (iI 0), .int (iI 0), .ref q_12, .ref q_13, .ref q_14, .ref q_15, .int (iI 0), .int (iI 0), .int (iI 0), .int (iI 0), .int (iI 0), .int (iI 0)]), (q_1, aI g 64 (lfT mW 64)), (q_2, aI g 64 (lfT mB 64)), (q_3, aI g 27 (lfT mWM 27)), (q_4, aI g 27 (lfT mBM 27)), (q_5, aI g 13 (lfT mBO 13)), (q_6, aI g 16384 (fun _ => 0)), (q_7, aI g 16384 (fun _ => 0)), (q_8, aZ g 3000 (fun _ => 0)), (q_9, aZ g 72000 (fun _ => 0)), (q_10, aI g 72000 (fun _ => 0)), (q_11, aI g 2000 (fun _ => 0)), (q_12, aZ g 75000 (fun _ => 0)), (q_13, aZ g 25 (fun _ => 0)), (q_14, aI g 75100 (fun _ => 0)), (q_15, aI g 25 (fun _ => 0))] hnm inX8 tyX8_ok nmX8 k1004 dX8_init_1452 rfl rfl (by decide) rfl rfl rfl rfl rfl (nl rfl) rfl rfl ?_
    refine v_aload_n fx 0 dX8_init_1455 rfl rfl ?_
    refine v_iload_n fx 2 dX8_init_1456 rfl rfl ?_
    refine v_iconst fx dX8_init_1457 rfl ?_
    have J1458 : ∀ (wz : Int), ((ww < 1 ∧ wz = 1) ∨ (1 ≤ ww ∧ ww ≤ 3000 ∧ wz = ww) ∨ (3000 < ww ∧ wz = 3000)) → V p9 l e9 (rmD 1 15 400000) s9 m9 ag9 bl9 mt9 c9 4 g A9 (MQ bl9 (cQ g (po_c_X8_init g h0 kk ww) A9) ag9 s9 15 400000 A9) [(h0, ob 8 [.ref q_1, .ref q_2, .ref q_3, .ref q_4, .ref q_5, .ref q_6, .ref q_7, .int (iI 0), .int (iI kz), .int (iI 0), .ref q_8, .ref q_9, .int (iI 0), .ref q_10, .int (iI 0), .int (iI 0), .ref q_11, .int (iI 0), .int (iI 0), .int (iI 0), .int (iI 0), .ref q_12, .ref q_13, .ref q_14, .ref q_15, .int (iI 0), .int (iI 0), .int (iI 0), .int (iI 0), .int (iI 0), .int (iI 0)]), (q_1, aI g 64 (lfT mW 64)), (q_2, aI g 64 (lfT mB 64)), (q_3, aI g 27 (lfT mWM 27)), (q_4, aI g 27 (lfT mBM 27)), (q_5, aI g 13 (lfT mBO 13)), (q_6, aI g 16384 (fun _ => 0)), (q_7, aI g 16384 (fun _ => 0)), (q_8, aZ g 3000 (fun _ => 0)), (q_9, aZ g 72000 (fun _ => 0)), (q_10, aI g 72000 (fun _ => 0)), (q_11, aI g 2000 (fun _ => 0)), (q_12, aZ g 75000 (fun _ => 0)), (q_13, aZ g 25 (fun _ => 0)), (q_14, aI g 75100 (fun _ => 0)), (q_15, aI g 25 (fun _ => 0))] 15 332113 [(0, .ref h0), (1, .int (iI kk)), (2, .int (iI ww))] 1479 [.int (iI wz), .ref h0] := by
      intro wz hj1458_0
      refine v_putF fx 0 9 [(h0, ob 8 [.ref q_1, .ref q_2, .ref q_3, .ref q_4, .ref q_5, .ref q_6, .ref q_7, .int (iI 0), .int (iI kz), .int (iI wz), .ref q_8, .ref q_9, .int (iI 0), .ref q_10, .int (iI 0), .int (iI 0), .ref q_11, .int (iI 0), .int (iI 0), .int (iI 0), .int (iI 0), .ref q_12, .ref q_13, .ref q_14, .ref q_15, .int (iI 0), .int (iI 0), .int (iI 0), .int (iI 0), .int (iI 0), .int (iI 0)]), (q_1, aI g 64 (lfT mW 64)), (q_2, aI g 64 (lfT mB 64)), (q_3, aI g 27 (lfT mWM 27)), (q_4, aI g 27 (lfT mBM 27)), (q_5, aI g 13 (lfT mBO 13)), (q_6, aI g 16384 (fun _ => 0)), (q_7, aI g 16384 (fun _ => 0)), (q_8, aZ g 3000 (fun _ => 0)), (q_9, aZ g 72000 (fun _ => 0)), (q_10, aI g 72000 (fun _ => 0)), (q_11, aI g 2000 (fun _ => 0)), (q_12, aZ g 75000 (fun _ => 0)), (q_13, aZ g 25 (fun _ => 0)), (q_14, aI g 75100 (fun _ => 0)), (q_15, aI g 25 (fun _ => 0))] hnm inX8 tyX8_ok nmX8 k1005 dX8_init_1479 rfl rfl (by decide) rfl rfl rfl rfl rfl (nl rfl) rfl rfl ?_
      refine v_iconst fx dX8_init_1482 rfl ?_
      refine v_istore_n fx [(3, .int (iI 0)), (0, .ref h0), (1, .int (iI kk)), (2, .int (iI ww))] dX8_init_1483 (by decide) rfl rfl ?_
      have L1484 : ∀ (N : Nat) (i : Int) (fw : Nat → Int32) (fb : Nat → Int32), (0 ≤ i ∧ i ≤ 64) → (rR fw) → (rR fb) → ((64 - i).toNat) < N → V p9 l e9 (rmD 1 15 400000) s9 m9 ag9 bl9 mt9 c9 4 g A9 (MQ bl9 (cQ g (po_c_X8_init g h0 kk ww) A9) ag9 s9 15 400000 A9) [(h0, ob 8 [.ref q_1, .ref q_2, .ref q_3, .ref q_4, .ref q_5, .ref q_6, .ref q_7, .int (iI 0), .int (iI kz), .int (iI wz), .ref q_8, .ref q_9, .int (iI 0), .ref q_10, .int (iI 0), .int (iI 0), .ref q_11, .int (iI 0), .int (iI 0), .int (iI 0), .int (iI 0), .ref q_12, .ref q_13, .ref q_14, .ref q_15, .int (iI 0), .int (iI 0), .int (iI 0), .int (iI 0), .int (iI 0), .int (iI 0)]), (q_1, aI g 64 (lfT mW 64)), (q_2, aI g 64 (lfT mB 64)), (q_3, aI g 27 (lfT mWM 27)), (q_4, aI g 27 (lfT mBM 27)), (q_5, aI g 13 (lfT mBO 13)), (q_6, aI g 16384 fw), (q_7, aI g 16384 fb), (q_8, aZ g 3000 (fun _ => 0)), (q_9, aZ g 72000 (fun _ => 0)), (q_10, aI g 72000 (fun _ => 0)), (q_11, aI g 2000 (fun _ => 0)), (q_12, aZ g 75000 (fun _ => 0)), (q_13, aZ g 25 (fun _ => 0)), (q_14, aI g 75100 (fun _ => 0)), (q_15, aI g 25 (fun _ => 0))] 15 332113 [(0, .ref h0), (1, .int (iI kk)), (2, .int (iI ww)), (3, .int (iI i))] 1484 [] := by
        intro N
        induction N with
        | zero => intro i fw fb hi1484_0 hi1484_1 hi1484_2 hN; exact absurd hN (Nat.not_lt_zero _)
        | succ N ihL1484 =>
          intro i fw fb hi1484_0 hi1484_1 hi1484_2 hN1484
          refine v_iload_n fx 3 dX8_init_1484 rfl rfl ?_
          refine v_bipush fx dX8_init_1485 (by decide +kernel) rfl ?_
          refine v_icmp_ge fx 1524 dX8_init_1487 (by decide) rfl (by omega) (by omega) (fun h_16 => ?_) (fun h_16 => ?_)
          ·
            refine v_iconst fx dX8_init_1524 rfl ?_
            refine v_istore_n fx [(3, .int (iI 0)), (0, .ref h0), (1, .int (iI kk)), (2, .int (iI ww))] dX8_init_1525 (by decide) rfl rfl ?_
            have L1526 : ∀ (N : Nat) (i : Int) (fw : Nat → Int32) (fb : Nat → Int32), (0 ≤ i ∧ i ≤ 27) → (rR fw) → (rR fb) → ((27 - i).toNat) < N → V p9 l e9 (rmD 1 15 400000) s9 m9 ag9 bl9 mt9 c9 4 g A9 (MQ bl9 (cQ g (po_c_X8_init g h0 kk ww) A9) ag9 s9 15 400000 A9) [(h0, ob 8 [.ref q_1, .ref q_2, .ref q_3, .ref q_4, .ref q_5, .ref q_6, .ref q_7, .int (iI 0), .int (iI kz), .int (iI wz), .ref q_8, .ref q_9, .int (iI 0), .ref q_10, .int (iI 0), .int (iI 0), .ref q_11, .int (iI 0), .int (iI 0), .int (iI 0), .int (iI 0), .ref q_12, .ref q_13, .ref q_14, .ref q_15, .int (iI 0), .int (iI 0), .int (iI 0), .int (iI 0), .int (iI 0), .int (iI 0)]), (q_1, aI g 64 (lfT mW 64)), (q_2, aI g 64 (lfT mB 64)), (q_3, aI g 27 (lfT mWM 27)), (q_4, aI g 27 (lfT mBM 27)), (q_5, aI g 13 (lfT mBO 13)), (q_6, aI g 16384 fw), (q_7, aI g 16384 fb), (q_8, aZ g 3000 (fun _ => 0)), (q_9, aZ g 72000 (fun _ => 0)), (q_10, aI g 72000 (fun _ => 0)), (q_11, aI g 2000 (fun _ => 0)), (q_12, aZ g 75000 (fun _ => 0)), (q_13, aZ g 25 (fun _ => 0)), (q_14, aI g 75100 (fun _ => 0)), (q_15, aI g 25 (fun _ => 0))] 15 332113 [(0, .ref h0), (1, .int (iI kk)), (2, .int (iI ww)), (3, .int (iI i))] 1526 [] := by
              intro N
              induction N with
              | zero => intro i fw fb hi1526_0 hi1526_1 hi1526_2 hN; exact absurd hN (Nat.not_lt_zero _)
              | succ N ihL1526 =>
                intro i fw fb hi1526_0 hi1526_1 hi1526_2 hN1526
                refine v_iload_n fx 3 dX8_init_1526 rfl rfl ?_
                refine v_bipush fx dX8_init_1527 (by decide +kernel) rfl ?_
                refine v_icmp_ge fx 1574 dX8_init_1529 (by decide) rfl (by omega) (by omega) (fun h_17 => ?_) (fun h_17 => ?_)
                ·
                  refine v_iconst fx dX8_init_1574 rfl ?_
                  refine v_istore_n fx [(3, .int (iI 0)), (0, .ref h0), (1, .int (iI kk)), (2, .int (iI ww))] dX8_init_1575 (by decide) rfl rfl ?_
                  have L1576 : ∀ (N : Nat) (i : Int) (fw : Nat → Int32) (fb : Nat → Int32), (0 ≤ i ∧ i ≤ 13) → (rR fw) → (rR fb) → ((13 - i).toNat) < N → V p9 l e9 (rmD 1 15 400000) s9 m9 ag9 bl9 mt9 c9 4 g A9 (MQ bl9 (cQ g (po_c_X8_init g h0 kk ww) A9) ag9 s9 15 400000 A9) [(h0, ob 8 [.ref q_1, .ref q_2, .ref q_3, .ref q_4, .ref q_5, .ref q_6, .ref q_7, .int (iI 0), .int (iI kz), .int (iI wz), .ref q_8, .ref q_9, .int (iI 0), .ref q_10, .int (iI 0), .int (iI 0), .ref q_11, .int (iI 0), .int (iI 0), .int (iI 0), .int (iI 0), .ref q_12, .ref q_13, .ref q_14, .ref q_15, .int (iI 0), .int (iI 0), .int (iI 0), .int (iI 0), .int (iI 0), .int (iI 0)]), (q_1, aI g 64 (lfT mW 64)), (q_2, aI g 64 (lfT mB 64)), (q_3, aI g 27 (lfT mWM 27)), (q_4, aI g 27 (lfT mBM 27)), (q_5, aI g 13 (lfT mBO 13)), (q_6, aI g 16384 fw), (q_7, aI g 16384 fb), (q_8, aZ g 3000 (fun _ => 0)), (q_9, aZ g 72000 (fun _ => 0)), (q_10, aI g 72000 (fun _ => 0)), (q_11, aI g 2000 (fun _ => 0)), (q_12, aZ g 75000 (fun _ => 0)), (q_13, aZ g 25 (fun _ => 0)), (q_14, aI g 75100 (fun _ => 0)), (q_15, aI g 25 (fun _ => 0))] 15 332113 [(0, .ref h0), (1, .int (iI kk)), (2, .int (iI ww)), (3, .int (iI i))] 1576 [] := by
                    intro N
                    induction N with
                    | zero => intro i fw fb hi1576_0 hi1576_1 hi1576_2 hN; exact absurd hN (Nat.not_lt_zero _)
                    | succ N ihL1576 =>
                      intro i fw fb hi1576_0 hi1576_1 hi1576_2 hN1576
                      refine v_iload_n fx 3 dX8_init_1576 rfl rfl ?_
                      refine v_bipush fx dX8_init_1577 (by decide +kernel) rfl ?_
                      refine v_icmp_ge fx 1626 dX8_init_1579 (by decide) rfl (by omega) (by omega) (fun h_18 => ?_) (fun h_18 => ?_)
                      ·
                        exact v_vret fx [(h0, ob 8 [.ref q_1, .ref q_2, .ref q_3, .ref q_4, .ref q_5, .ref q_6, .ref q_7, .int (iI 0), .int (iI kz), .int (iI wz), .ref q_8, .ref q_9, .int (iI 0), .ref q_10, .int (iI 0), .int (iI 0), .ref q_11, .int (iI 0), .int (iI 0), .int (iI 0), .int (iI 0), .ref q_12, .ref q_13, .ref q_14, .ref q_15, .int (iI 0), .int (iI 0), .int (iI 0), .int (iI 0), .int (iI 0), .int (iI 0)]), (q_1, aI g 64 (lfT mW 64)), (q_2, aI g 64 (lfT mB 64)), (q_3, aI g 27 (lfT mWM 27)), (q_4, aI g 27 (lfT mBM 27)), (q_5, aI g 13 (lfT mBO 13)), (q_6, aI g 16384 fw), (q_7, aI g 16384 fb), (q_8, aZ g 3000 (fun _ => 0)), (q_9, aZ g 72000 (fun _ => 0)), (q_10, aI g 72000 (fun _ => 0)), (q_11, aI g 2000 (fun _ => 0)), (q_12, aZ g 75000 (fun _ => 0)), (q_13, aZ g 25 (fun _ => 0)), (q_14, aI g 75100 (fun _ => 0)), (q_15, aI g 25 (fun _ => 0))] [0, 1, 2, 3, 4, 5, 6, 7, 8, 9, 10, 11, 12, 13, 14, 15] hr dX8_init_1626 rfl rfl (nl rfl) (nl rfl) ⟨kz, wz, q_1, q_2, q_3, q_4, q_5, q_6, q_7, q_8, q_9, q_10, q_11, q_12, q_13, q_14, q_15, fw, fb, rfl, rfl, (by first | omega | rfl | assumption), (by first | omega | rfl | assumption), (by first | omega | rfl | assumption), (by first | omega | rfl | assumption)⟩
                      ·
                        refine v_aload_n fx 0 dX8_init_1582 rfl rfl ?_
                        refine v_get fx 0 5 inX8 k1001 dX8_init_1583 rfl rfl (by decide) rfl rfl rfl ?_
                        refine v_aload_n fx 0 dX8_init_1586 rfl rfl ?_
                        refine v_get fx 0 4 inX8 k1000 dX8_init_1587 rfl rfl (by decide) rfl rfl rfl ?_
                        refine v_iload_n fx 3 dX8_init_1590 rfl rfl ?_
                        refine v_iald fx 5 dX8_init_1591 rfl (by omega) (by omega) rfl ?_
                        refine v_top (iI (mBO.getD i.toNat 0)) (lfT_all (by decide) _) ?_
                        have hbmBO := mBO_b i.toNat
                        refine v_sipush fx dX8_init_1592 (by decide +kernel) rfl ?_
                        refine v_bipush fx dX8_init_1595 (by decide +kernel) rfl ?_
                        refine v_iload_n fx 3 dX8_init_1597 rfl rfl ?_
                        refine v_imul fx (64 * i) dX8_init_1598 (by rfl) rfl ?_
                        refine v_iadd fx (1793 + (64 * i)) dX8_init_1599 (by rfl) rfl ?_
                        obtain ⟨f_19, ef_19⟩ : ∃ f9 : Nat → Int32, upd fw (mBO.getD i.toNat 0).toNat (iI (1793 + (64 * i))) = f9 := ⟨_, rfl⟩
                        refine v_iast fx 6 f_19 [(h0, ob 8 [.ref q_1, .ref q_2, .ref q_3, .ref q_4, .ref q_5, .ref q_6, .ref q_7, .int (iI 0), .int (iI kz), .int (iI wz), .ref q_8, .ref q_9, .int (iI 0), .ref q_10, .int (iI 0), .int (iI 0), .ref q_11, .int (iI 0), .int (iI 0), .int (iI 0), .int (iI 0), .ref q_12, .ref q_13, .ref q_14, .ref q_15, .int (iI 0), .int (iI 0), .int (iI 0), .int (iI 0), .int (iI 0), .int (iI 0)]), (q_1, aI g 64 (lfT mW 64)), (q_2, aI g 64 (lfT mB 64)), (q_3, aI g 27 (lfT mWM 27)), (q_4, aI g 27 (lfT mBM 27)), (q_5, aI g 13 (lfT mBO 13)), (q_6, aI g 16384 f_19), (q_7, aI g 16384 fb), (q_8, aZ g 3000 (fun _ => 0)), (q_9, aZ g 72000 (fun _ => 0)), (q_10, aI g 72000 (fun _ => 0)), (q_11, aI g 2000 (fun _ => 0)), (q_12, aZ g 75000 (fun _ => 0)), (q_13, aZ g 25 (fun _ => 0)), (q_14, aI g 75100 (fun _ => 0)), (q_15, aI g 25 (fun _ => 0))] dX8_init_1600 rfl (by omega) (by omega) ef_19 rfl rfl ?_
                        refine v_aload_n fx 0 dX8_init_1601 rfl rfl ?_
                        refine v_get fx 0 6 inX8 k1002 dX8_init_1602 rfl rfl (by decide) rfl rfl rfl ?_
                        refine v_aload_n fx 0 dX8_init_1605 rfl rfl ?_
                        refine v_get fx 0 4 inX8 k1000 dX8_init_1606 rfl rfl (by decide) rfl rfl rfl ?_
                        refine v_iload_n fx 3 dX8_init_1609 rfl rfl ?_
                        refine v_iald fx 5 dX8_init_1610 rfl (by omega) (by omega) rfl ?_
                        refine v_top (iI (mBO.getD i.toNat 0)) (lfT_all (by decide) _) ?_
                        have hbmBO := mBO_b i.toNat
                        refine v_sipush fx dX8_init_1611 (by decide +kernel) rfl ?_
                        refine v_bipush fx dX8_init_1614 (by decide +kernel) rfl ?_
                        refine v_iload_n fx 3 dX8_init_1616 rfl rfl ?_
                        refine v_imul fx (64 * i) dX8_init_1617 (by rfl) rfl ?_
                        refine v_iadd fx (1793 + (64 * i)) dX8_init_1618 (by rfl) rfl ?_
                        obtain ⟨f_20, ef_20⟩ : ∃ f9 : Nat → Int32, upd fb (mBO.getD i.toNat 0).toNat (iI (1793 + (64 * i))) = f9 := ⟨_, rfl⟩
                        refine v_iast fx 7 f_20 [(h0, ob 8 [.ref q_1, .ref q_2, .ref q_3, .ref q_4, .ref q_5, .ref q_6, .ref q_7, .int (iI 0), .int (iI kz), .int (iI wz), .ref q_8, .ref q_9, .int (iI 0), .ref q_10, .int (iI 0), .int (iI 0), .ref q_11, .int (iI 0), .int (iI 0), .int (iI 0), .int (iI 0), .ref q_12, .ref q_13, .ref q_14, .ref q_15, .int (iI 0), .int (iI 0), .int (iI 0), .int (iI 0), .int (iI 0), .int (iI 0)]), (q_1, aI g 64 (lfT mW 64)), (q_2, aI g 64 (lfT mB 64)), (q_3, aI g 27 (lfT mWM 27)), (q_4, aI g 27 (lfT mBM 27)), (q_5, aI g 13 (lfT mBO 13)), (q_6, aI g 16384 f_19), (q_7, aI g 16384 f_20), (q_8, aZ g 3000 (fun _ => 0)), (q_9, aZ g 72000 (fun _ => 0)), (q_10, aI g 72000 (fun _ => 0)), (q_11, aI g 2000 (fun _ => 0)), (q_12, aZ g 75000 (fun _ => 0)), (q_13, aZ g 25 (fun _ => 0)), (q_14, aI g 75100 (fun _ => 0)), (q_15, aI g 25 (fun _ => 0))] dX8_init_1619 rfl (by omega) (by omega) ef_20 rfl rfl ?_
                        refine v_iinc fx 3 (i + 1) [(3, .int (iI (i + 1))), (0, .ref h0), (1, .int (iI kk)), (2, .int (iI ww))] dX8_init_1620 rfl (by omega) (by decide) rfl rfl ?_
                        refine v_goto fx 1576 dX8_init_1623 (by decide) ?_
                        refine v_lv [1, 2, 3, 0] [(0, .ref h0), (1, .int (iI kk)), (2, .int (iI ww)), (3, .int (iI (i + 1)))] rfl ?_
                        exact ihL1576 (i + 1) f_19 f_20 (by omega) (by exact rR_updE (by assumption) (by assumption) (by omega)) (by exact rR_updE (by assumption) (by assumption) (by omega)) (by omega)
                  refine v_lv [1, 2, 3, 0] [(0, .ref h0), (1, .int (iI kk)), (2, .int (iI ww)), (3, .int (iI 0))] rfl ?_
                  exact L1576 _ 0 fw fb (by omega) (by first | assumption | exact rR_0) (by first | assumption | exact rR_0) (Nat.lt_succ_self _)
                ·
                  refine v_aload_n fx 0 dX8_init_1532 rfl rfl ?_
                  refine v_get fx 0 5 inX8 k1001 dX8_init_1533 rfl rfl (by decide) rfl rfl rfl ?_
                  refine v_aload_n fx 0 dX8_init_1536 rfl rfl ?_
                  refine v_get fx 0 2 inX8 k998 dX8_init_1537 rfl rfl (by decide) rfl rfl rfl ?_
                  refine v_iload_n fx 3 dX8_init_1540 rfl rfl ?_
                  refine v_iald fx 3 dX8_init_1541 rfl (by omega) (by omega) rfl ?_
                  refine v_top (iI (mWM.getD i.toNat 0)) (lfT_all (by decide) _) ?_
                  have hbmWM := mWM_b i.toNat
                  refine v_bipush fx dX8_init_1542 (by decide +kernel) rfl ?_
                  refine v_bipush fx dX8_init_1544 (by decide +kernel) rfl ?_
                  refine v_iload_n fx 3 dX8_init_1546 rfl rfl ?_
                  refine v_imul fx (64 * i) dX8_init_1547 (by rfl) rfl ?_
                  refine v_iadd fx (65 + (64 * i)) dX8_init_1548 (by rfl) rfl ?_
                  obtain ⟨f_21, ef_21⟩ : ∃ f9 : Nat → Int32, upd fw (mWM.getD i.toNat 0).toNat (iI (65 + (64 * i))) = f9 := ⟨_, rfl⟩
                  refine v_iast fx 6 f_21 [(h0, ob 8 [.ref q_1, .ref q_2, .ref q_3, .ref q_4, .ref q_5, .ref q_6, .ref q_7, .int (iI 0), .int (iI kz), .int (iI wz), .ref q_8, .ref q_9, .int (iI 0), .ref q_10, .int (iI 0), .int (iI 0), .ref q_11, .int (iI 0), .int (iI 0), .int (iI 0), .int (iI 0), .ref q_12, .ref q_13, .ref q_14, .ref q_15, .int (iI 0), .int (iI 0), .int (iI 0), .int (iI 0), .int (iI 0), .int (iI 0)]), (q_1, aI g 64 (lfT mW 64)), (q_2, aI g 64 (lfT mB 64)), (q_3, aI g 27 (lfT mWM 27)), (q_4, aI g 27 (lfT mBM 27)), (q_5, aI g 13 (lfT mBO 13)), (q_6, aI g 16384 f_21), (q_7, aI g 16384 fb), (q_8, aZ g 3000 (fun _ => 0)), (q_9, aZ g 72000 (fun _ => 0)), (q_10, aI g 72000 (fun _ => 0)), (q_11, aI g 2000 (fun _ => 0)), (q_12, aZ g 75000 (fun _ => 0)), (q_13, aZ g 25 (fun _ => 0)), (q_14, aI g 75100 (fun _ => 0)), (q_15, aI g 25 (fun _ => 0))] dX8_init_1549 rfl (by omega) (by omega) ef_21 rfl rfl ?_
                  refine v_aload_n fx 0 dX8_init_1550 rfl rfl ?_
                  refine v_get fx 0 6 inX8 k1002 dX8_init_1551 rfl rfl (by decide) rfl rfl rfl ?_
                  refine v_aload_n fx 0 dX8_init_1554 rfl rfl ?_
                  refine v_get fx 0 3 inX8 k999 dX8_init_1555 rfl rfl (by decide) rfl rfl rfl ?_
                  refine v_iload_n fx 3 dX8_init_1558 rfl rfl ?_
                  refine v_iald fx 4 dX8_init_1559 rfl (by omega) (by omega) rfl ?_
                  refine v_top (iI (mBM.getD i.toNat 0)) (lfT_all (by decide) _) ?_
                  have hbmBM := mBM_b i.toNat
                  refine v_bipush fx dX8_init_1560 (by decide +kernel) rfl ?_
                  refine v_bipush fx dX8_init_1562 (by decide +kernel) rfl ?_
                  refine v_iload_n fx 3 dX8_init_1564 rfl rfl ?_
                  refine v_imul fx (64 * i) dX8_init_1565 (by rfl) rfl ?_
                  refine v_iadd fx (65 + (64 * i)) dX8_init_1566 (by rfl) rfl ?_
                  obtain ⟨f_22, ef_22⟩ : ∃ f9 : Nat → Int32, upd fb (mBM.getD i.toNat 0).toNat (iI (65 + (64 * i))) = f9 := ⟨_, rfl⟩
                  refine v_iast fx 7 f_22 [(h0, ob 8 [.ref q_1, .ref q_2, .ref q_3, .ref q_4, .ref q_5, .ref q_6, .ref q_7, .int (iI 0), .int (iI kz), .int (iI wz), .ref q_8, .ref q_9, .int (iI 0), .ref q_10, .int (iI 0), .int (iI 0), .ref q_11, .int (iI 0), .int (iI 0), .int (iI 0), .int (iI 0), .ref q_12, .ref q_13, .ref q_14, .ref q_15, .int (iI 0), .int (iI 0), .int (iI 0), .int (iI 0), .int (iI 0), .int (iI 0)]), (q_1, aI g 64 (lfT mW 64)), (q_2, aI g 64 (lfT mB 64)), (q_3, aI g 27 (lfT mWM 27)), (q_4, aI g 27 (lfT mBM 27)), (q_5, aI g 13 (lfT mBO 13)), (q_6, aI g 16384 f_21), (q_7, aI g 16384 f_22), (q_8, aZ g 3000 (fun _ => 0)), (q_9, aZ g 72000 (fun _ => 0)), (q_10, aI g 72000 (fun _ => 0)), (q_11, aI g 2000 (fun _ => 0)), (q_12, aZ g 75000 (fun _ => 0)), (q_13, aZ g 25 (fun _ => 0)), (q_14, aI g 75100 (fun _ => 0)), (q_15, aI g 25 (fun _ => 0))] dX8_init_1567 rfl (by omega) (by omega) ef_22 rfl rfl ?_
                  refine v_iinc fx 3 (i + 1) [(3, .int (iI (i + 1))), (0, .ref h0), (1, .int (iI kk)), (2, .int (iI ww))] dX8_init_1568 rfl (by omega) (by decide) rfl rfl ?_
                  refine v_goto fx 1526 dX8_init_1571 (by decide) ?_
                  refine v_lv [1, 2, 3, 0] [(0, .ref h0), (1, .int (iI kk)), (2, .int (iI ww)), (3, .int (iI (i + 1)))] rfl ?_
                  exact ihL1526 (i + 1) f_21 f_22 (by omega) (by exact rR_updE (by assumption) (by assumption) (by omega)) (by exact rR_updE (by assumption) (by assumption) (by omega)) (by omega)
            refine v_lv [1, 2, 3, 0] [(0, .ref h0), (1, .int (iI kk)), (2, .int (iI ww)), (3, .int (iI 0))] rfl ?_
            exact L1526 _ 0 fw fb (by omega) (by first | assumption | exact rR_0) (by first | assumption | exact rR_0) (Nat.lt_succ_self _)
          ·
            refine v_aload_n fx 0 dX8_init_1490 rfl rfl ?_
            refine v_get fx 0 5 inX8 k1001 dX8_init_1491 rfl rfl (by decide) rfl rfl rfl ?_
            refine v_aload_n fx 0 dX8_init_1494 rfl rfl ?_
            refine v_get fx 0 0 inX8 k996 dX8_init_1495 rfl rfl (by decide) rfl rfl rfl ?_
            refine v_iload_n fx 3 dX8_init_1498 rfl rfl ?_
            refine v_iald fx 1 dX8_init_1499 rfl (by omega) (by omega) rfl ?_
            refine v_top (iI (mW.getD i.toNat 0)) (lfT_all (by decide) _) ?_
            have hbmW := mW_b i.toNat
            refine v_iconst fx dX8_init_1500 rfl ?_
            refine v_iload_n fx 3 dX8_init_1501 rfl rfl ?_
            refine v_iadd fx (1 + i) dX8_init_1502 (by rfl) rfl ?_
            obtain ⟨f_23, ef_23⟩ : ∃ f9 : Nat → Int32, upd fw (mW.getD i.toNat 0).toNat (iI (1 + i)) = f9 := ⟨_, rfl⟩
            refine v_iast fx 6 f_23 [(h0, ob 8 [.ref q_1, .ref q_2, .ref q_3, .ref q_4, .ref q_5, .ref q_6, .ref q_7, .int (iI 0), .int (iI kz), .int (iI wz), .ref q_8, .ref q_9, .int (iI 0), .ref q_10, .int (iI 0), .int (iI 0), .ref q_11, .int (iI 0), .int (iI 0), .int (iI 0), .int (iI 0), .ref q_12, .ref q_13, .ref q_14, .ref q_15, .int (iI 0), .int (iI 0), .int (iI 0), .int (iI 0), .int (iI 0), .int (iI 0)]), (q_1, aI g 64 (lfT mW 64)), (q_2, aI g 64 (lfT mB 64)), (q_3, aI g 27 (lfT mWM 27)), (q_4, aI g 27 (lfT mBM 27)), (q_5, aI g 13 (lfT mBO 13)), (q_6, aI g 16384 f_23), (q_7, aI g 16384 fb), (q_8, aZ g 3000 (fun _ => 0)), (q_9, aZ g 72000 (fun _ => 0)), (q_10, aI g 72000 (fun _ => 0)), (q_11, aI g 2000 (fun _ => 0)), (q_12, aZ g 75000 (fun _ => 0)), (q_13, aZ g 25 (fun _ => 0)), (q_14, aI g 75100 (fun _ => 0)), (q_15, aI g 25 (fun _ => 0))] dX8_init_1503 rfl (by omega) (by omega) ef_23 rfl rfl ?_
            refine v_aload_n fx 0 dX8_init_1504 rfl rfl ?_
            refine v_get fx 0 6 inX8 k1002 dX8_init_1505 rfl rfl (by decide) rfl rfl rfl ?_
            refine v_aload_n fx 0 dX8_init_1508 rfl rfl ?_
            refine v_get fx 0 1 inX8 k997 dX8_init_1509 rfl rfl (by decide) rfl rfl rfl ?_
            refine v_iload_n fx 3 dX8_init_1512 rfl rfl ?_
            refine v_iald fx 2 dX8_init_1513 rfl (by omega) (by omega) rfl ?_
            refine v_top (iI (mB.getD i.toNat 0)) (lfT_all (by decide) _) ?_
            have hbmB := mB_b i.toNat
            refine v_iconst fx dX8_init_1514 rfl ?_
            refine v_iload_n fx 3 dX8_init_1515 rfl rfl ?_
            refine v_iadd fx (1 + i) dX8_init_1516 (by rfl) rfl ?_
            obtain ⟨f_24, ef_24⟩ : ∃ f9 : Nat → Int32, upd fb (mB.getD i.toNat 0).toNat (iI (1 + i)) = f9 := ⟨_, rfl⟩
            refine v_iast fx 7 f_24 [(h0, ob 8 [.ref q_1, .ref q_2, .ref q_3, .ref q_4, .ref q_5, .ref q_6, .ref q_7, .int (iI 0), .int (iI kz), .int (iI wz), .ref q_8, .ref q_9, .int (iI 0), .ref q_10, .int (iI 0), .int (iI 0), .ref q_11, .int (iI 0), .int (iI 0), .int (iI 0), .int (iI 0), .ref q_12, .ref q_13, .ref q_14, .ref q_15, .int (iI 0), .int (iI 0), .int (iI 0), .int (iI 0), .int (iI 0), .int (iI 0)]), (q_1, aI g 64 (lfT mW 64)), (q_2, aI g 64 (lfT mB 64)), (q_3, aI g 27 (lfT mWM 27)), (q_4, aI g 27 (lfT mBM 27)), (q_5, aI g 13 (lfT mBO 13)), (q_6, aI g 16384 f_23), (q_7, aI g 16384 f_24), (q_8, aZ g 3000 (fun _ => 0)), (q_9, aZ g 72000 (fun _ => 0)), (q_10, aI g 72000 (fun _ => 0)), (q_11, aI g 2000 (fun _ => 0)), (q_12, aZ g 75000 (fun _ => 0)), (q_13, aZ g 25 (fun _ => 0)), (q_14, aI g 75100 (fun _ => 0)), (q_15, aI g 25 (fun _ => 0))] dX8_init_1517 rfl (by omega) (by omega) ef_24 rfl rfl ?_
            refine v_iinc fx 3 (i + 1) [(3, .int (iI (i + 1))), (0, .ref h0), (1, .int (iI kk)), (2, .int (iI ww))] dX8_init_1518 rfl (by omega) (by decide) rfl rfl ?_
            refine v_goto fx 1484 dX8_init_1521 (by decide) ?_
            refine v_lv [1, 2, 3, 0] [(0, .ref h0), (1, .int (iI kk)), (2, .int (iI ww)), (3, .int (iI (i + 1)))] rfl ?_
            exact ihL1484 (i + 1) f_23 f_24 (by omega) (by exact rR_updE (by assumption) (by assumption) (by omega)) (by exact rR_updE (by assumption) (by assumption) (by omega)) (by omega)
      refine v_lv [1, 2, 3, 0] [(0, .ref h0), (1, .int (iI kk)), (2, .int (iI ww)), (3, .int (iI 0))] rfl ?_
      exact L1484 _ 0 (fun _ => 0) (fun _ => 0) (by omega) (by first | assumption | exact rR_0) (by first | assumption | exact rR_0) (Nat.lt_succ_self _)
    refine v_icmp_ge fx 1465 dX8_init_1458 (by decide) rfl (by omega) (by omega) (fun h_25 => ?_) (fun h_25 => ?_)
    ·
      refine v_iload_n fx 2 dX8_init_1465 rfl rfl ?_
      refine v_sipush fx dX8_init_1466 (by decide +kernel) rfl ?_
      refine v_icmp_le fx 1478 dX8_init_1469 (by decide) rfl (by omega) (by omega) (fun h_26 => ?_) (fun h_26 => ?_)
      ·
        refine v_iload_n fx 2 dX8_init_1478 rfl rfl ?_
        exact J1458 ww (by omega)
      ·
        refine v_sipush fx dX8_init_1472 (by decide +kernel) rfl ?_
        refine v_goto fx 1479 dX8_init_1475 (by decide) ?_
        exact J1458 3000 (by omega)
    ·
      refine v_iconst fx dX8_init_1461 rfl ?_
      refine v_goto fx 1479 dX8_init_1462 (by decide) ?_
      exact J1458 1 (by omega)
  refine v_if_ge fx 1442 dX8_init_1435 (by decide) rfl (by omega) (fun h_27 => ?_) (fun h_27 => ?_)
  ·
    refine v_iload_n fx 1 dX8_init_1442 rfl rfl ?_
    refine v_iconst fx dX8_init_1443 rfl ?_
    refine v_icmp_le fx 1451 dX8_init_1444 (by decide) rfl (by omega) (by omega) (fun h_28 => ?_) (fun h_28 => ?_)
    ·
      refine v_iload_n fx 1 dX8_init_1451 rfl rfl ?_
      exact J1435 kk (by omega)
    ·
      refine v_iconst fx dX8_init_1447 rfl ?_
      refine v_goto fx 1452 dX8_init_1448 (by decide) ?_
      exact J1435 2 (by omega)
  ·
    refine v_iconst fx dX8_init_1438 rfl ?_
    refine v_goto fx 1452 dX8_init_1439 (by decide) ?_
    exact J1435 0 (by omega)
