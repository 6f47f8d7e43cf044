/-! THE BITS THAT ARE WRITTEN -/
/-- the k lowest bits of n, the highest first -/
def cbits : Nat → Nat → List Bool
  | 0, _ => []
  | k + 1, n => n.testBit k :: cbits k n
theorem cbits_len : ∀ (k n : Nat), (cbits k n).length = k
  | 0, _ => rfl
  | k + 1, n => by simp [cbits, cbits_len k n]
/-- the bits of a code behind its first 1 -/
def codeB (x : Int) : List Bool := cbits (clen x) x.toNat
theorem codeB_len (x : Int) : (codeB x).length = clen x := cbits_len _ _
/-- the place of bit k in its byte -/
def plc (tu : Int) (k : Nat) : Nat := if tu = 0 then k else 7 - k
def bv1 (b : Bool) (p : Nat) : Nat := if b then 2 ^ p else 0
def bvv (tu : Int) (b0 b1 b2 b3 b4 b5 b6 b7 : Bool) : Nat := bv1 b0 (plc tu 0) + bv1 b1 (plc tu 1) + bv1 b2 (plc tu 2) + bv1 b3 (plc tu 3) + bv1 b4 (plc tu 4) + bv1 b5 (plc tu 5) + bv1 b6 (plc tu 6) + bv1 b7 (plc tu 7)
/-- byte i of bits -/
def byteV (T : List Bool) (tu : Int) (i : Nat) : Nat := bvv tu (T.getD (8 * i) false) (T.getD (8 * i + 1) false) (T.getD (8 * i + 2) false) (T.getD (8 * i + 3) false) (T.getD (8 * i + 4) false) (T.getD (8 * i + 5) false) (T.getD (8 * i + 6) false) (T.getD (8 * i + 7) false)
theorem getD_out {T : List Bool} {j : Nat} (h : T.length ≤ j) : T.getD j false = false := by
  simp only [List.getD, List.getElem?_eq_none h, Option.getD_none]
theorem getD_snoc (T : List Bool) (b : Bool) (j : Nat) : (T ++ [b]).getD j false = if j = T.length then b else T.getD j false := by
  by_cases h : j = T.length
  · subst h; rw [if_pos rfl]; simp [List.getD]
  · rw [if_neg h]
    by_cases h2 : j < T.length
    · simp only [List.getD, List.getElem?_append_left h2]
    · rw [getD_out (by simp; omega), getD_out (by omega)]
theorem getD_ne {T : List Bool} {b : Bool} {j : Nat} (h : j ≠ T.length) : (T ++ [b]).getD j false = T.getD j false := by rw [getD_snoc, if_neg h]
theorem getD_last {T : List Bool} {b : Bool} {j : Nat} (h : j = T.length) : (T ++ [b]).getD j false = b := by rw [getD_snoc, if_pos h]
theorem byteV_other {T : List Bool} {b : Bool} {tu : Int} {i : Nat} (h : i ≠ T.length / 8) : byteV (T ++ [b]) tu i = byteV T tu i := by
  unfold byteV
  rw [getD_ne (by omega), getD_ne (by omega), getD_ne (by omega), getD_ne (by omega), getD_ne (by omega), getD_ne (by omega), getD_ne (by omega), getD_ne (by omega)]
theorem byteV_false (T : List Bool) (tu : Int) (i : Nat) : byteV (T ++ [false]) tu i = byteV T tu i := by
  have h : ∀ j, (T ++ [false]).getD j false = T.getD j false := fun j => by
    rw [getD_snoc]
    by_cases q : j = T.length
    · rw [if_pos q, getD_out (by omega)]
    · rw [if_neg q]
  unfold byteV
  rw [h, h, h, h, h, h, h, h]
/-- a byte's number, with its sign -/
def sgB (v : Nat) : Int := if v < 128 then (v : Int) else (v : Int) - 256
def tuB (t : Bool) : Int := if t then 7 else 0
theorem fin_or_0 : ∀ (t : Bool), vp_nar .byte (iI (sgB (bvv (tuB t) false false false false false false false false)) ||| iI ((2 ^ plc (tuB t) 0 : Nat) : Int)).toInt8.toInt32 = iI (sgB (bvv (tuB t) true false false false false false false false)) := by decide +kernel
theorem fin_add_0 : ∀ (t : Bool) (x : Bool), iI (bvv (tuB t) false false false false false false false false : Nat) + (iI (if x then 1 else 0) <<< (iI (plc (tuB t) 0 : Nat) &&& 31)) = iI (bvv (tuB t) x false false false false false false false : Nat) := by decide +kernel
theorem bvs_0 {T : List Bool} {d : Bool} {tu : Int} {i : Nat} (h : T.length = 8 * i) : byteV (T ++ [d]) tu i = bvv tu d false false false false false false false ∧ byteV T tu i = bvv tu false false false false false false false false := by
  refine ⟨?_, ?_⟩ <;> unfold byteV
  · rw [getD_last (T := T) (b := d) (j := 8 * i) (by omega), getD_ne (T := T) (b := d) (j := 8 * i + 1) (by omega), getD_out (T := T) (j := 8 * i + 1) (by omega), getD_ne (T := T) (b := d) (j := 8 * i + 2) (by omega), getD_out (T := T) (j := 8 * i + 2) (by omega), getD_ne (T := T) (b := d) (j := 8 * i + 3) (by omega), getD_out (T := T) (j := 8 * i + 3) (by omega), getD_ne (T := T) (b := d) (j := 8 * i + 4) (by omega), getD_out (T := T) (j := 8 * i + 4) (by omega), getD_ne (T := T) (b := d) (j := 8 * i + 5) (by omega), getD_out (T := T) (j := 8 * i + 5) (by omega), getD_ne (T := T) (b := d) (j := 8 * i + 6) (by omega), getD_out (T := T) (j := 8 * i + 6) (by omega), getD_ne (T := T) (b := d) (j := 8 * i + 7) (by omega), getD_out (T := T) (j := 8 * i + 7) (by omega)]
  · rw [getD_out (T := T) (j := 8 * i) (by omega), getD_out (T := T) (j := 8 * i + 1) (by omega), getD_out (T := T) (j := 8 * i + 2) (by omega), getD_out (T := T) (j := 8 * i + 3) (by omega), getD_out (T := T) (j := 8 * i + 4) (by omega), getD_out (T := T) (j := 8 * i + 5) (by omega), getD_out (T := T) (j := 8 * i + 6) (by omega), getD_out (T := T) (j := 8 * i + 7) (by omega)]
theorem fin_or_1 : ∀ (t : Bool) (b0 : Bool), vp_nar .byte (iI (sgB (bvv (tuB t) b0 false false false false false false false)) ||| iI ((2 ^ plc (tuB t) 1 : Nat) : Int)).toInt8.toInt32 = iI (sgB (bvv (tuB t) b0 true false false false false false false)) := by decide +kernel
theorem fin_add_1 : ∀ (t : Bool) (b0 : Bool) (x : Bool), iI (bvv (tuB t) b0 false false false false false false false : Nat) + (iI (if x then 1 else 0) <<< (iI (plc (tuB t) 1 : Nat) &&& 31)) = iI (bvv (tuB t) b0 x false false false false false false : Nat) := by decide +kernel
theorem bvs_1 {T : List Bool} {d : Bool} {tu : Int} {i : Nat} (h : T.length = 8 * i + 1) : byteV (T ++ [d]) tu i = bvv tu (T.getD (8 * i) false) d false false false false false false ∧ byteV T tu i = bvv tu (T.getD (8 * i) false) false false false false false false false := by
  refine ⟨?_, ?_⟩ <;> unfold byteV
  · rw [getD_ne (T := T) (b := d) (j := 8 * i) (by omega), getD_last (T := T) (b := d) (j := 8 * i + 1) (by omega), getD_ne (T := T) (b := d) (j := 8 * i + 2) (by omega), getD_out (T := T) (j := 8 * i + 2) (by omega), getD_ne (T := T) (b := d) (j := 8 * i + 3) (by omega), getD_out (T := T) (j := 8 * i + 3) (by omega), getD_ne (T := T) (b := d) (j := 8 * i + 4) (by omega), getD_out (T := T) (j := 8 * i + 4) (by omega), getD_ne (T := T) (b := d) (j := 8 * i + 5) (by omega), getD_out (T := T) (j := 8 * i + 5) (by omega), getD_ne (T := T) (b := d) (j := 8 * i + 6) (by omega), getD_out (T := T) (j := 8 * i + 6) (by omega), getD_ne (T := T) (b := d) (j := 8 * i + 7) (by omega), getD_out (T := T) (j := 8 * i + 7) (by omega)]
  · rw [getD_out (T := T) (j := 8 * i + 1) (by omega), getD_out (T := T) (j := 8 * i + 2) (by omega), getD_out (T := T) (j := 8 * i + 3) (by omega), getD_out (T := T) (j := 8 * i + 4) (by omega), getD_out (T := T) (j := 8 * i + 5) (by omega), getD_out (T := T) (j := 8 * i + 6) (by omega), getD_out (T := T) (j := 8 * i + 7) (by omega)]
theorem fin_or_2 : ∀ (t : Bool) (b0 b1 : Bool), vp_nar .byte (iI (sgB (bvv (tuB t) b0 b1 false false false false false false)) ||| iI ((2 ^ plc (tuB t) 2 : Nat) : Int)).toInt8.toInt32 = iI (sgB (bvv (tuB t) b0 b1 true false false false false false)) := by decide +kernel
theorem fin_add_2 : ∀ (t : Bool) (b0 b1 : Bool) (x : Bool), iI (bvv (tuB t) b0 b1 false false false false false false : Nat) + (iI (if x then 1 else 0) <<< (iI (plc (tuB t) 2 : Nat) &&& 31)) = iI (bvv (tuB t) b0 b1 x false false false false false : Nat) := by decide +kernel
theorem bvs_2 {T : List Bool} {d : Bool} {tu : Int} {i : Nat} (h : T.length = 8 * i + 2) : byteV (T ++ [d]) tu i = bvv tu (T.getD (8 * i) false) (T.getD (8 * i + 1) false) d false false false false false ∧ byteV T tu i = bvv tu (T.getD (8 * i) false) (T.getD (8 * i + 1) false) false false false false false false := by
  refine ⟨?_, ?_⟩ <;> unfold byteV
  · rw [getD_ne (T := T) (b := d) (j := 8 * i) (by omega), getD_ne (T := T) (b := d) (j := 8 * i + 1) (by omega), getD_last (T := T) (b := d) (j := 8 * i + 2) (by omega), getD_ne (T := T) (b := d) (j := 8 * i + 3) (by omega), getD_out (T := T) (j := 8 * i + 3) (by omega), getD_ne (T := T) (b := d) (j := 8 * i + 4) (by omega), getD_out (T := T) (j := 8 * i + 4) (by omega), getD_ne (T := T) (b := d) (j := 8 * i + 5) (by omega), getD_out (T := T) (j := 8 * i + 5) (by omega), getD_ne (T := T) (b := d) (j := 8 * i + 6) (by omega), getD_out (T := T) (j := 8 * i + 6) (by omega), getD_ne (T := T) (b := d) (j := 8 * i + 7) (by omega), getD_out (T := T) (j := 8 * i + 7) (by omega)]
  · rw [getD_out (T := T) (j := 8 * i + 2) (by omega), getD_out (T := T) (j := 8 * i + 3) (by omega), getD_out (T := T) (j := 8 * i + 4) (by omega), getD_out (T := T) (j := 8 * i + 5) (by omega), getD_out (T := T) (j := 8 * i + 6) (by omega), getD_out (T := T) (j := 8 * i + 7) (by omega)]
theorem fin_or_3 : ∀ (t : Bool) (b0 b1 b2 : Bool), vp_nar .byte (iI (sgB (bvv (tuB t) b0 b1 b2 false false false false false)) ||| iI ((2 ^ plc (tuB t) 3 : Nat) : Int)).toInt8.toInt32 = iI (sgB (bvv (tuB t) b0 b1 b2 true false false false false)) := by decide +kernel
theorem fin_add_3 : ∀ (t : Bool) (b0 b1 b2 : Bool) (x : Bool), iI (bvv (tuB t) b0 b1 b2 false false false false false : Nat) + (iI (if x then 1 else 0) <<< (iI (plc (tuB t) 3 : Nat) &&& 31)) = iI (bvv (tuB t) b0 b1 b2 x false false false false : Nat) := by decide +kernel
theorem bvs_3 {T : List Bool} {d : Bool} {tu : Int} {i : Nat} (h : T.length = 8 * i + 3) : byteV (T ++ [d]) tu i = bvv tu (T.getD (8 * i) false) (T.getD (8 * i + 1) false) (T.getD (8 * i + 2) false) d false false false false ∧ byteV T tu i = bvv tu (T.getD (8 * i) false) (T.getD (8 * i + 1) false) (T.getD (8 * i + 2) false) false false false false false := by
  refine ⟨?_, ?_⟩ <;> unfold byteV
  · rw [getD_ne (T := T) (b := d) (j := 8 * i) (by omega), getD_ne (T := T) (b := d) (j := 8 * i + 1) (by omega), getD_ne (T := T) (b := d) (j := 8 * i + 2) (by omega), getD_last (T := T) (b := d) (j := 8 * i + 3) (by omega), getD_ne (T := T) (b := d) (j := 8 * i + 4) (by omega), getD_out (T := T) (j := 8 * i + 4) (by omega), getD_ne (T := T) (b := d) (j := 8 * i + 5) (by omega), getD_out (T := T) (j := 8 * i + 5) (by omega), getD_ne (T := T) (b := d) (j := 8 * i + 6) (by omega), getD_out (T := T) (j := 8 * i + 6) (by omega), getD_ne (T := T) (b := d) (j := 8 * i + 7) (by omega), getD_out (T := T) (j := 8 * i + 7) (by omega)]
  · rw [getD_out (T := T) (j := 8 * i + 3) (by omega), getD_out (T := T) (j := 8 * i + 4) (by omega), getD_out (T := T) (j := 8 * i + 5) (by omega), getD_out (T := T) (j := 8 * i + 6) (by omega), getD_out (T := T) (j := 8 * i + 7) (by omega)]
theorem fin_or_4 : ∀ (t : Bool) (b0 b1 b2 b3 : Bool), vp_nar .byte (iI (sgB (bvv (tuB t) b0 b1 b2 b3 false false false false)) ||| iI ((2 ^ plc (tuB t) 4 : Nat) : Int)).toInt8.toInt32 = iI (sgB (bvv (tuB t) b0 b1 b2 b3 true false false false)) := by decide +kernel
theorem fin_add_4 : ∀ (t : Bool) (b0 b1 b2 b3 : Bool) (x : Bool), iI (bvv (tuB t) b0 b1 b2 b3 false false false false : Nat) + (iI (if x then 1 else 0) <<< (iI (plc (tuB t) 4 : Nat) &&& 31)) = iI (bvv (tuB t) b0 b1 b2 b3 x false false false : Nat) := by decide +kernel
theorem bvs_4 {T : List Bool} {d : Bool} {tu : Int} {i : Nat} (h : T.length = 8 * i + 4) : byteV (T ++ [d]) tu i = bvv tu (T.getD (8 * i) false) (T.getD (8 * i + 1) false) (T.getD (8 * i + 2) false) (T.getD (8 * i + 3) false) d false false false ∧ byteV T tu i = bvv tu (T.getD (8 * i) false) (T.getD (8 * i + 1) false) (T.getD (8 * i + 2) false) (T.getD (8 * i + 3) false) false false false false := by
  refine ⟨?_, ?_⟩ <;> unfold byteV
  · rw [getD_ne (T := T) (b := d) (j := 8 * i) (by omega), getD_ne (T := T) (b := d) (j := 8 * i + 1) (by omega), getD_ne (T := T) (b := d) (j := 8 * i + 2) (by omega), getD_ne (T := T) (b := d) (j := 8 * i + 3) (by omega), getD_last (T := T) (b := d) (j := 8 * i + 4) (by omega), getD_ne (T := T) (b := d) (j := 8 * i + 5) (by omega), getD_out (T := T) (j := 8 * i + 5) (by omega), getD_ne (T := T) (b := d) (j := 8 * i + 6) (by omega), getD_out (T := T) (j := 8 * i + 6) (by omega), getD_ne (T := T) (b := d) (j := 8 * i + 7) (by omega), getD_out (T := T) (j := 8 * i + 7) (by omega)]
  · rw [getD_out (T := T) (j := 8 * i + 4) (by omega), getD_out (T := T) (j := 8 * i + 5) (by omega), getD_out (T := T) (j := 8 * i + 6) (by omega), getD_out (T := T) (j := 8 * i + 7) (by omega)]
theorem fin_or_5 : ∀ (t : Bool) (b0 b1 b2 b3 b4 : Bool), vp_nar .byte (iI (sgB (bvv (tuB t) b0 b1 b2 b3 b4 false false false)) ||| iI ((2 ^ plc (tuB t) 5 : Nat) : Int)).toInt8.toInt32 = iI (sgB (bvv (tuB t) b0 b1 b2 b3 b4 true false false)) := by decide +kernel
theorem fin_add_5 : ∀ (t : Bool) (b0 b1 b2 b3 b4 : Bool) (x : Bool), iI (bvv (tuB t) b0 b1 b2 b3 b4 false false false : Nat) + (iI (if x then 1 else 0) <<< (iI (plc (tuB t) 5 : Nat) &&& 31)) = iI (bvv (tuB t) b0 b1 b2 b3 b4 x false false : Nat) := by decide +kernel
theorem bvs_5 {T : List Bool} {d : Bool} {tu : Int} {i : Nat} (h : T.length = 8 * i + 5) : byteV (T ++ [d]) tu i = bvv tu (T.getD (8 * i) false) (T.getD (8 * i + 1) false) (T.getD (8 * i + 2) false) (T.getD (8 * i + 3) false) (T.getD (8 * i + 4) false) d false false ∧ byteV T tu i = bvv tu (T.getD (8 * i) false) (T.getD (8 * i + 1) false) (T.getD (8 * i + 2) false) (T.getD (8 * i + 3) false) (T.getD (8 * i + 4) false) false false false := by
  refine ⟨?_, ?_⟩ <;> unfold byteV
  · rw [getD_ne (T := T) (b := d) (j := 8 * i) (by omega), getD_ne (T := T) (b := d) (j := 8 * i + 1) (by omega), getD_ne (T := T) (b := d) (j := 8 * i + 2) (by omega), getD_ne (T := T) (b := d) (j := 8 * i + 3) (by omega), getD_ne (T := T) (b := d) (j := 8 * i + 4) (by omega), getD_last (T := T) (b := d) (j := 8 * i + 5) (by omega), getD_ne (T := T) (b := d) (j := 8 * i + 6) (by omega), getD_out (T := T) (j := 8 * i + 6) (by omega), getD_ne (T := T) (b := d) (j := 8 * i + 7) (by omega), getD_out (T := T) (j := 8 * i + 7) (by omega)]
  · rw [getD_out (T := T) (j := 8 * i + 5) (by omega), getD_out (T := T) (j := 8 * i + 6) (by omega), getD_out (T := T) (j := 8 * i + 7) (by omega)]
theorem fin_or_6 : ∀ (t : Bool) (b0 b1 b2 b3 b4 b5 : Bool), vp_nar .byte (iI (sgB (bvv (tuB t) b0 b1 b2 b3 b4 b5 false false)) ||| iI ((2 ^ plc (tuB t) 6 : Nat) : Int)).toInt8.toInt32 = iI (sgB (bvv (tuB t) b0 b1 b2 b3 b4 b5 true false)) := by decide +kernel
theorem fin_add_6 : ∀ (t : Bool) (b0 b1 b2 b3 b4 b5 : Bool) (x : Bool), iI (bvv (tuB t) b0 b1 b2 b3 b4 b5 false false : Nat) + (iI (if x then 1 else 0) <<< (iI (plc (tuB t) 6 : Nat) &&& 31)) = iI (bvv (tuB t) b0 b1 b2 b3 b4 b5 x false : Nat) := by decide +kernel
theorem bvs_6 {T : List Bool} {d : Bool} {tu : Int} {i : Nat} (h : T.length = 8 * i + 6) : byteV (T ++ [d]) tu i = bvv tu (T.getD (8 * i) false) (T.getD (8 * i + 1) false) (T.getD (8 * i + 2) false) (T.getD (8 * i + 3) false) (T.getD (8 * i + 4) false) (T.getD (8 * i + 5) false) d false ∧ byteV T tu i = bvv tu (T.getD (8 * i) false) (T.getD (8 * i + 1) false) (T.getD (8 * i + 2) false) (T.getD (8 * i + 3) false) (T.getD (8 * i + 4) false) (T.getD (8 * i + 5) false) false false := by
  refine ⟨?_, ?_⟩ <;> unfold byteV
  · rw [getD_ne (T := T) (b := d) (j := 8 * i) (by omega), getD_ne (T := T) (b := d) (j := 8 * i + 1) (by omega), getD_ne (T := T) (b := d) (j := 8 * i + 2) (by omega), getD_ne (T := T) (b := d) (j := 8 * i + 3) (by omega), getD_ne (T := T) (b := d) (j := 8 * i + 4) (by omega), getD_ne (T := T) (b := d) (j := 8 * i + 5) (by omega), getD_last (T := T) (b := d) (j := 8 * i + 6) (by omega), getD_ne (T := T) (b := d) (j := 8 * i + 7) (by omega), getD_out (T := T) (j := 8 * i + 7) (by omega)]
  · rw [getD_out (T := T) (j := 8 * i + 6) (by omega), getD_out (T := T) (j := 8 * i + 7) (by omega)]
theorem fin_or_7 : ∀ (t : Bool) (b0 b1 b2 b3 b4 b5 b6 : Bool), vp_nar .byte (iI (sgB (bvv (tuB t) b0 b1 b2 b3 b4 b5 b6 false)) ||| iI ((2 ^ plc (tuB t) 7 : Nat) : Int)).toInt8.toInt32 = iI (sgB (bvv (tuB t) b0 b1 b2 b3 b4 b5 b6 true)) := by decide +kernel
theorem fin_add_7 : ∀ (t : Bool) (b0 b1 b2 b3 b4 b5 b6 : Bool) (x : Bool), iI (bvv (tuB t) b0 b1 b2 b3 b4 b5 b6 false : Nat) + (iI (if x then 1 else 0) <<< (iI (plc (tuB t) 7 : Nat) &&& 31)) = iI (bvv (tuB t) b0 b1 b2 b3 b4 b5 b6 x : Nat) := by decide +kernel
theorem bvs_7 {T : List Bool} {d : Bool} {tu : Int} {i : Nat} (h : T.length = 8 * i + 7) : byteV (T ++ [d]) tu i = bvv tu (T.getD (8 * i) false) (T.getD (8 * i + 1) false) (T.getD (8 * i + 2) false) (T.getD (8 * i + 3) false) (T.getD (8 * i + 4) false) (T.getD (8 * i + 5) false) (T.getD (8 * i + 6) false) d ∧ byteV T tu i = bvv tu (T.getD (8 * i) false) (T.getD (8 * i + 1) false) (T.getD (8 * i + 2) false) (T.getD (8 * i + 3) false) (T.getD (8 * i + 4) false) (T.getD (8 * i + 5) false) (T.getD (8 * i + 6) false) false := by
  refine ⟨?_, ?_⟩ <;> unfold byteV
  · rw [getD_ne (T := T) (b := d) (j := 8 * i) (by omega), getD_ne (T := T) (b := d) (j := 8 * i + 1) (by omega), getD_ne (T := T) (b := d) (j := 8 * i + 2) (by omega), getD_ne (T := T) (b := d) (j := 8 * i + 3) (by omega), getD_ne (T := T) (b := d) (j := 8 * i + 4) (by omega), getD_ne (T := T) (b := d) (j := 8 * i + 5) (by omega), getD_ne (T := T) (b := d) (j := 8 * i + 6) (by omega), getD_last (T := T) (b := d) (j := 8 * i + 7) (by omega)]
  · rw [getD_out (T := T) (j := 8 * i + 7) (by omega)]
theorem shl_fin : ∀ (t : Bool) (k : Fin 8), iI 1 <<< ((iI (k.val : Int) ^^^ iI (tuB t)) &&& 31) = iI ((2 ^ plc (tuB t) k.val : Nat) : Int) := by decide +kernel
/-- the class's row of bytes holds the bits T, and nothing behind them -/
def EncC (n : Nat) (f : Nat → Int32) (tu c : Int) (T : List Bool) : Prop := c = T.length ∧ ∀ i, i < n → f i = iI (sgB (byteV T tu i))
theorem EncC_c {n : Nat} {f : Nat → Int32} {tu c : Int} {T : List Bool} (h : EncC n f tu c T) : c = T.length := h.1
theorem EncC_0 {n : Nat} {f : Nat → Int32} {tu c : Int} {T : List Bool} (h : EncC n f tu c T) : EncC n f tu (c + 1) (T ++ [false]) := by
  refine ⟨by have := h.1; simp; omega, fun i hi => ?_⟩
  rw [byteV_false]; exact h.2 i hi
theorem EncC_1 {n : Nat} {f f2 : Nat → Int32} {t : Bool} {c : Int} {T : List Bool} {t1 t2 t3 : Int32} (h : EncC n f (tuB t) c T) (e1 : iI (c % 8) ^^^ iI (tuB t) = t1) (e2 : iI 1 <<< (t1 &&& 31) = t2) (e3 : f (c / 8).toNat ||| t2 = t3) (e : upd f (c / 8).toNat (vp_nar .byte t3.toInt8.toInt32) = f2) (hc : 0 ≤ c ∧ c < 8 * (n : Int)) : EncC n f2 (tuB t) (c + 1) (T ++ [true]) := by
  have hT := h.1
  refine ⟨by simp; omega, fun i hi => ?_⟩
  rw [← e]
  by_cases q : i = (c / 8).toNat
  · subst q
    rw [pk_us]
    have hs : iI 1 <<< ((iI ((T.length % 8 : Nat) : Int) ^^^ iI (tuB t)) &&& 31) = iI ((2 ^ plc (tuB t) (T.length % 8) : Nat) : Int) := shl_fin t ⟨T.length % 8, by omega⟩
    rw [show ((T.length % 8 : Nat) : Int) = c % 8 by omega, e1, e2] at hs
    have hv := h.2 _ hi
    rw [← e3, hs, hv]
    rcases (show T.length % 8 = 0 ∨ T.length % 8 = 1 ∨ T.length % 8 = 2 ∨ T.length % 8 = 3 ∨ T.length % 8 = 4 ∨ T.length % 8 = 5 ∨ T.length % 8 = 6 ∨ T.length % 8 = 7 by omega) with hr | hr | hr | hr | hr | hr | hr | hr
    · obtain ⟨g1, g2⟩ := bvs_0 (T := T) (d := true) (tu := tuB t) (i := (c / 8).toNat) (by omega)
      rw [g1, g2, hr]; exact fin_or_0 t 
    · obtain ⟨g1, g2⟩ := bvs_1 (T := T) (d := true) (tu := tuB t) (i := (c / 8).toNat) (by omega)
      rw [g1, g2, hr]; exact fin_or_1 t _
    · obtain ⟨g1, g2⟩ := bvs_2 (T := T) (d := true) (tu := tuB t) (i := (c / 8).toNat) (by omega)
      rw [g1, g2, hr]; exact fin_or_2 t _ _
    · obtain ⟨g1, g2⟩ := bvs_3 (T := T) (d := true) (tu := tuB t) (i := (c / 8).toNat) (by omega)
      rw [g1, g2, hr]; exact fin_or_3 t _ _ _
    · obtain ⟨g1, g2⟩ := bvs_4 (T := T) (d := true) (tu := tuB t) (i := (c / 8).toNat) (by omega)
      rw [g1, g2, hr]; exact fin_or_4 t _ _ _ _
    · obtain ⟨g1, g2⟩ := bvs_5 (T := T) (d := true) (tu := tuB t) (i := (c / 8).toNat) (by omega)
      rw [g1, g2, hr]; exact fin_or_5 t _ _ _ _ _
    · obtain ⟨g1, g2⟩ := bvs_6 (T := T) (d := true) (tu := tuB t) (i := (c / 8).toNat) (by omega)
      rw [g1, g2, hr]; exact fin_or_6 t _ _ _ _ _ _
    · obtain ⟨g1, g2⟩ := bvs_7 (T := T) (d := true) (tu := tuB t) (i := (c / 8).toNat) (by omega)
      rw [g1, g2, hr]; exact fin_or_7 t _ _ _ _ _ _ _
  · rw [pk_un q, byteV_other (by omega)]; exact h.2 i hi
/-- the reference's bytes hold the bits T -/
def EncR (f : Nat → Int32) (tu b : Int) (T : List Bool) : Prop := b = T.length ∧ ∀ i, 8 * i < T.length → f i = iI (byteV T tu i : Nat)
theorem EncR_nil (f : Nat → Int32) (tu : Int) : EncR f tu 0 [] := ⟨rfl, fun i h => by simp at h⟩
theorem EncR_1 {f f2 : Nat → Int32} {t x : Bool} {b : Int} {T : List Bool} {p : Int} {y : Int32} (h : EncR f (tuB t) b T) (hp : p = (plc (tuB t) (b % 8).toNat : Nat)) (hy : (b % 8 = 0 ∧ y = iI (if x then 1 else 0) <<< (iI p &&& 31)) ∨ (b % 8 ≠ 0 ∧ y = f (b / 8).toNat + iI (if x then 1 else 0) <<< (iI p &&& 31))) (e : upd f (b / 8).toNat y = f2) (hb : 0 ≤ b) : EncR f2 (tuB t) (b + 1) (T ++ [x]) := by
  have hT := h.1
  refine ⟨by simp; omega, fun i hi => ?_⟩
  rw [← e]
  by_cases q : i = (b / 8).toNat
  · subst q
    rw [pk_us, hp] at *
    rcases (show T.length % 8 = 0 ∨ T.length % 8 = 1 ∨ T.length % 8 = 2 ∨ T.length % 8 = 3 ∨ T.length % 8 = 4 ∨ T.length % 8 = 5 ∨ T.length % 8 = 6 ∨ T.length % 8 = 7 by omega) with hr | hr | hr | hr | hr | hr | hr | hr
    · obtain ⟨g1, g2⟩ := bvs_0 (T := T) (d := x) (tu := tuB t) (i := (b / 8).toNat) (by omega)
      rcases hy with ⟨y1, y2⟩ | ⟨y1, y2⟩
      · rw [y2, g1, show (b % 8).toNat = 0 by omega]
        have := fin_add_0 t x
        rw [show iI (bvv (tuB t) false false false false false false false false : Nat) = 0 from by cases t <;> decide +kernel, Int32.zero_add] at this
        exact this
      · exfalso; omega
    · obtain ⟨g1, g2⟩ := bvs_1 (T := T) (d := x) (tu := tuB t) (i := (b / 8).toNat) (by omega)
      rcases hy with ⟨y1, y2⟩ | ⟨y1, y2⟩
      · exfalso; omega
      · have hv := h.2 (b / 8).toNat (by omega)
        rw [y2, hv, g1, g2, show (b % 8).toNat = 1 by omega]; exact fin_add_1 t _ x
    · obtain ⟨g1, g2⟩ := bvs_2 (T := T) (d := x) (tu := tuB t) (i := (b / 8).toNat) (by omega)
      rcases hy with ⟨y1, y2⟩ | ⟨y1, y2⟩
      · exfalso; omega
      · have hv := h.2 (b / 8).toNat (by omega)
        rw [y2, hv, g1, g2, show (b % 8).toNat = 2 by omega]; exact fin_add_2 t _ _ x
    · obtain ⟨g1, g2⟩ := bvs_3 (T := T) (d := x) (tu := tuB t) (i := (b / 8).toNat) (by omega)
      rcases hy with ⟨y1, y2⟩ | ⟨y1, y2⟩
      · exfalso; omega
      · have hv := h.2 (b / 8).toNat (by omega)
        rw [y2, hv, g1, g2, show (b % 8).toNat = 3 by omega]; exact fin_add_3 t _ _ _ x
    · obtain ⟨g1, g2⟩ := bvs_4 (T := T) (d := x) (tu := tuB t) (i := (b / 8).toNat) (by omega)
      rcases hy with ⟨y1, y2⟩ | ⟨y1, y2⟩
      · exfalso; omega
      · have hv := h.2 (b / 8).toNat (by omega)
        rw [y2, hv, g1, g2, show (b % 8).toNat = 4 by omega]; exact fin_add_4 t _ _ _ _ x
    · obtain ⟨g1, g2⟩ := bvs_5 (T := T) (d := x) (tu := tuB t) (i := (b / 8).toNat) (by omega)
      rcases hy with ⟨y1, y2⟩ | ⟨y1, y2⟩
      · exfalso; omega
      · have hv := h.2 (b / 8).toNat (by omega)
        rw [y2, hv, g1, g2, show (b % 8).toNat = 5 by omega]; exact fin_add_5 t _ _ _ _ _ x
    · obtain ⟨g1, g2⟩ := bvs_6 (T := T) (d := x) (tu := tuB t) (i := (b / 8).toNat) (by omega)
      rcases hy with ⟨y1, y2⟩ | ⟨y1, y2⟩
      · exfalso; omega
      · have hv := h.2 (b / 8).toNat (by omega)
        rw [y2, hv, g1, g2, show (b % 8).toNat = 6 by omega]; exact fin_add_6 t _ _ _ _ _ _ x
    · obtain ⟨g1, g2⟩ := bvs_7 (T := T) (d := x) (tu := tuB t) (i := (b / 8).toNat) (by omega)
      rcases hy with ⟨y1, y2⟩ | ⟨y1, y2⟩
      · exfalso; omega
      · have hv := h.2 (b / 8).toNat (by omega)
        rw [y2, hv, g1, g2, show (b % 8).toNat = 7 by omega]; exact fin_add_7 t _ _ _ _ _ _ _ x
  · rw [pk_un q, byteV_other (by omega)]
    exact h.2 i (by simp at hi; omega)
theorem iI_bv (a : Nat) : (iI (a : Int)).toBitVec = BitVec.ofNat 32 a := by
  show (Int32.ofInt (a : Int)).toBitVec = _
  rw [Int32.toBitVec_ofInt]
  exact BitVec.ofInt_natCast 32 a
theorem iI_land (a b : Nat) : iI (a : Int) &&& iI (b : Int) = iI ((a &&& b : Nat) : Int) := by
  apply Int32.toBitVec_inj.mp
  rw [Int32.toBitVec_and, iI_bv, iI_bv, iI_bv, BitVec.ofNat_and]
theorem nat_and_pow (n k : Nat) : n &&& 2 ^ k = if n.testBit k then 2 ^ k else 0 := by
  apply Nat.eq_of_testBit_eq
  intro i
  rw [Nat.testBit_and, Nat.testBit_two_pow]
  by_cases h : k = i
  · subst h
    cases hq : n.testBit k <;> simp [Nat.testBit_two_pow]
  · cases hq : n.testBit k <;> simp [Nat.testBit_two_pow, h]
theorem and_bit {x b z : Int} {k : Nat} {t : Int32} (e1 : iI x &&& iI b = t) (e2 : t = iI z) (hz : -2147483648 ≤ z ∧ z < 2147483648) (hb : b = hb2 (k + 1)) (hk : k + 1 ≤ 13) (hx : 0 ≤ x ∧ x < 16384) : (z ≠ 0 ∧ x.toNat.testBit k = true) ∨ (z = 0 ∧ x.toNat.testBit k = false) := by
  have hb0 : b = ((2 ^ k : Nat) : Int) := by rw [hb]; unfold hb2; rw [Nat.pow_succ]; omega
  have e3 := iI_land x.toNat (2 ^ k)
  rw [nat_and_pow, show ((x.toNat : Nat) : Int) = x by omega, ← hb0, e1, e2] at e3
  have hp : 2 ^ k ≤ 2 ^ 12 := Nat.pow_le_pow_right (by decide) (by omega)
  have hp0 := Nat.two_pow_pos k
  cases hq : x.toNat.testBit k with
  | true =>
    left
    rw [hq, if_pos rfl, iI_inj hz (by omega)] at e3
    exact ⟨by omega, rfl⟩
  | false =>
    right
    rw [hq, if_neg (by decide), iI_inj hz (by omega)] at e3
    exact ⟨by omega, rfl⟩
theorem tuB_of {tu : Int} (h : tu = 0 ∨ tu = 7) : ∃ t, tu = tuB t := by
  rcases h with h | h
  · exact ⟨false, h⟩
  · exact ⟨true, h⟩
theorem EncC_1w {n : Nat} {f f2 : Nat → Int32} {tu : Int} {c : Int} {T : List Bool} {t1 t2 t3 : Int32} (h : EncC n f tu c T) (htu : tu = 0 ∨ tu = 7) (e1 : iI (c % 8) ^^^ iI tu = t1) (e2 : iI 1 <<< (t1 &&& 31) = t2) (e3 : f (c / 8).toNat ||| t2 = t3) (e : upd f (c / 8).toNat (vp_nar .byte t3.toInt8.toInt32) = f2) (hc : 0 ≤ c ∧ c < 8 * (n : Int)) : EncC n f2 tu (c + 1) (T ++ [true]) := by
  obtain ⟨t, rfl⟩ := tuB_of htu
  exact EncC_1 h e1 e2 e3 e hc
theorem byteV_nil (tu : Int) (i : Nat) : byteV [] tu i = 0 := by simp [byteV, bvv, bv1]
theorem byteV_out {T : List Bool} {tu : Int} {i : Nat} (h : T.length ≤ 8 * i) : byteV T tu i = 0 := by
  unfold byteV
  rw [getD_out h, getD_out (by omega), getD_out (by omega), getD_out (by omega), getD_out (by omega), getD_out (by omega), getD_out (by omega), getD_out (by omega)]
  simp [bvv, bv1]
theorem EncC_nil {n : Nat} {f : Nat → Int32} {tu : Int} (h : ∀ j, j < n → f j = 0) : EncC n f tu 0 [] := by
  refine ⟨rfl, fun i hi => ?_⟩
  rw [byteV_nil, h i hi]; decide
theorem EncC_grow {n n2 : Nat} {f f2 : Nat → Int32} {tu c : Int} {T : List Bool} (h : EncC n f tu c T) (hc : c ≤ 8 * (n : Int)) (h1 : ∀ j, j < n → f2 j = f j) (h2 : ∀ j, n ≤ j → f2 j = 0) : EncC n2 f2 tu c T := by
  refine ⟨h.1, fun i hi => ?_⟩
  by_cases q : i < n
  · rw [h1 i q]; exact h.2 i q
  · rw [h2 i (by omega), byteV_out (by have := h.1; omega)]; decide
theorem EncC_zeros {n : Nat} {f : Nat → Int32} {tu c : Int} {T : List Bool} (h : EncC n f tu c T) : ∀ z : Nat, EncC n f tu (c + z) (T ++ List.replicate z false)
  | 0 => by simpa using h
  | z + 1 => by
    have h1 := EncC_0 (EncC_zeros h z)
    rw [List.append_assoc, ← List.replicate_succ'] at h1
    rw [show c + ((z + 1 : Nat) : Int) = c + (z : Int) + 1 by omega]
    exact h1
/-- the bytes behind are 0 -/
def zB (n : Nat) (f : Nat → Int32) (c : Int) : Prop := ∀ j : Nat, j < n → c ≤ 8 * (j : Int) → f j = 0
theorem EncC_zB {n : Nat} {f : Nat → Int32} {tu c : Int} {T : List Bool} (h : EncC n f tu c T) : zB n f c := by
  intro j h1 h2
  rw [h.2 j h1, byteV_out (by have := h.1; omega)]; decide
/-- the code of a run's part -/
def rcode (n bk : Int) : Int := if n < 91 then ((if bk = 1 then gT1 else gT0).getD n.toNat 0).toInt else (gT2.getD (n - 91).toNat 0).toInt
theorem rcode_1 {n z : Int} (h : n < 91) (e : gT1.getD n.toNat 0 = iI z) (hz : -2147483648 ≤ z ∧ z < 2147483648) : z = rcode n 1 := by
  unfold rcode; rw [if_pos h, if_pos rfl, e, iI_toInt hz]
theorem rcode_0 {n z : Int} (h : n < 91) (e : gT0.getD n.toNat 0 = iI z) (hz : -2147483648 ≤ z ∧ z < 2147483648) : z = rcode n 0 := by
  unfold rcode; rw [if_pos h, if_neg (by decide), e, iI_toInt hz]
theorem rcode_2 {n bk z : Int} (h : ¬ n < 91) (e : gT2.getD (n - 91).toNat 0 = iI z) (hz : -2147483648 ≤ z ∧ z < 2147483648) : z = rcode n bk := by
  unfold rcode; rw [if_neg h, e, iI_toInt hz]
/-- the bits of a run -/
def runT (y bk : Int) : List Bool := (if 64 ≤ y then codeB (rcode (y / 64 + 63) bk) else []) ++ codeB (rcode (y % 64) bk)
def runS (x bk : Int) : List Bool := if 2560 ≤ x then codeB (rcode 103 bk) ++ runT (x - 2560) bk else runT x bk
/-- the runs of a row, up to the k-th -/
def loA (A : Int → Int) (k : Int) : Int := if k = 0 then 0 else A (k - 1)
def oneUp (A : Int → Int) : Nat → List Bool
  | 0 => []
  | k + 1 => oneUp A k ++ runS (A k - loA A k) ((k : Int) % 2)
/-- k is the number of the first that is behind a0 -/
def MinI (A : Int → Int) (a0 k : Int) : Prop := 0 ≤ k ∧ a0 < A k ∧ ∀ j, 0 ≤ j → j < k → A j ≤ a0
theorem MinI_u {A : Int → Int} {a0 k k2 : Int} (h : MinI A a0 k) (h2 : MinI A a0 k2) : k = k2 := by
  by_cases q : k < k2
  · have := h2.2.2 k h.1 q; have := h.2.1; omega
  · by_cases q2 : k2 < k
    · have := h.2.2 k2 h2.1 q2; have := h2.2.1; omega
    · omega
def vco (d : Int) : Int := (gT3.getD (5 + d).toNat 0).toInt
abbrev sV (a1 b1 : Int) : Prop := -3 ≤ a1 - b1 ∧ a1 - b1 ≤ 3
def rs0 (a0 : Int) : Int := if a0 < 0 then 0 else a0
def sC (a0 bk a1 a2 b1 b2 : Int) : List Bool := if b2 < a1 then codeB 17 else if sV a1 b1 then codeB (vco (a1 - b1)) else codeB 9 ++ (runS (a1 - rs0 a0) bk ++ runS (a2 - a1) (1 - bk))
def sA (a1 a2 b1 b2 : Int) : Int := if b2 < a1 then b2 else if sV a1 b1 then a1 else a2
def sK (bk a1 b1 b2 : Int) : Int := if b2 < a1 then bk else if sV a1 b1 then 1 - bk else bk
/-- the bits of a row in two dimensions, from a0 on, in so many modes -/
def TwoN (w : Int) (A B : Int → Int) : Nat → Int → Int → List Bool → Prop
  | 0, a0, _, S => w ≤ a0 ∧ S = []
  | m + 1, a0, bk, S => a0 < w ∧ ∃ (k n : Int) (R : List Bool), MinI A a0 k ∧ MinI B a0 n ∧ TwoN w A B m (sA (A k) (A (k + 1)) (B (nb1 n bk)) (B (nb1 n bk + 1))) (sK bk (A k) (B (nb1 n bk)) (B (nb1 n bk + 1))) R ∧ S = sC a0 bk (A k) (A (k + 1)) (B (nb1 n bk)) (B (nb1 n bk + 1)) ++ R
def Two (w : Int) (A B : Int → Int) (a0 bk : Int) (S : List Bool) : Prop := ∃ m, TwoN w A B m a0 bk S
theorem Two_fin {w : Int} {A B : Int → Int} (a0 bk : Int) (h : w ≤ a0) : Two w A B a0 bk [] := ⟨0, h, rfl⟩
theorem Two_step {w : Int} {A B : Int → Int} (a0 bk k n : Int) (R : List Bool) (h1 : a0 < w) (h2 : MinI A a0 k) (h3 : MinI B a0 n) (h4 : Two w A B (sA (A k) (A (k + 1)) (B (nb1 n bk)) (B (nb1 n bk + 1))) (sK bk (A k) (B (nb1 n bk)) (B (nb1 n bk + 1))) R) : Two w A B a0 bk (sC a0 bk (A k) (A (k + 1)) (B (nb1 n bk)) (B (nb1 n bk + 1)) ++ R) := by
  obtain ⟨m, hm⟩ := h4
  exact ⟨m + 1, h1, k, n, R, h2, h3, hm, rfl⟩
theorem TwoN_u {w : Int} {A B : Int → Int} : ∀ (m m2 : Nat) (a0 bk : Int) (R R2 : List Bool), TwoN w A B m a0 bk R → TwoN w A B m2 a0 bk R2 → R = R2
  | 0, 0, a0, bk, R, R2, h, h2 => by rw [h.2, h2.2]
  | 0, m2 + 1, a0, bk, R, R2, h, h2 => by have := h.1; have := h2.1; omega
  | m + 1, 0, a0, bk, R, R2, h, h2 => by have := h.1; have := h2.1; omega
  | m + 1, m2 + 1, a0, bk, R, R2, h, h2 => by
    obtain ⟨h1, k, n, Q, h3, h4, h5, h6⟩ := h
    obtain ⟨g1, k2, n2, Q2, g3, g4, g5, g6⟩ := h2
    have e1 := MinI_u h3 g3
    have e2 := MinI_u h4 g4
    subst e1; subst e2
    rw [h6, g6, TwoN_u m m2 _ _ Q Q2 h5 g5]
theorem Two_u {w : Int} {A B : Int → Int} {a0 bk : Int} {R : List Bool} (h : Two w A B a0 bk R) : ∀ R2, Two w A B a0 bk R2 → R = R2 := by
  intro R2 h2
  obtain ⟨m, hm⟩ := h
  obtain ⟨m2, hm2⟩ := h2
  exact TwoN_u m m2 a0 bk R R2 hm hm2
def PreT (w : Int) (A B : Int → Int) (P : List Bool) (a0 bk : Int) : Prop := ∀ R, Two w A B a0 bk R → Two w A B (-1) 0 (P ++ R)
theorem PreT_0 {w : Int} {A B : Int → Int} : PreT w A B [] (-1) 0 := fun _ h => h
theorem PreT_step {w : Int} {A B : Int → Int} {P : List Bool} {a0 bk k n : Int} (h : PreT w A B P a0 bk) (h1 : a0 < w) (h2 : MinI A a0 k) (h3 : MinI B a0 n) : PreT w A B (P ++ sC a0 bk (A k) (A (k + 1)) (B (nb1 n bk)) (B (nb1 n bk + 1))) (sA (A k) (A (k + 1)) (B (nb1 n bk)) (B (nb1 n bk + 1))) (sK bk (A k) (B (nb1 n bk)) (B (nb1 n bk + 1))) := by
  intro R hR
  rw [List.append_assoc]
  exact h _ (Two_step a0 bk k n R h1 h2 h3 hR)
theorem PreT_end {w : Int} {A B : Int → Int} {P : List Bool} {a0 bk : Int} (h : PreT w A B P a0 bk) (h1 : w ≤ a0) : Two w A B (-1) 0 P := by
  have := h [] (Two_fin a0 bk h1)
  rwa [List.append_nil] at this
/-- what comes before a row, and what ends all -/
def preB (kd one : Int) : List Bool := (if kd < 2 then codeB 4097 else []) ++ (if kd = 1 then codeB (if one = 1 then 3 else 2) else [])
def oneF (kd y : Int) : Int := if kd = 0 ∨ (kd = 1 ∧ y % 4 = 0) then 1 else 0
/-- the bits of row y -/
def RowB (kd w : Int) (A : Int → Int → Int) (ln : Int → Int) (y : Int) (R : List Bool) : Prop := (oneF kd y = 1 ∧ R = oneUp (A y) (ln y + 1).toNat) ∨ (oneF kd y = 0 ∧ Two w (A y) (A (y - 1)) (-1) 0 R)
def fillB (kd fl : Int) (R : List Bool) : List Bool := List.replicate (if kd < 2 then (fl - R.length).toNat else 0) false
/-- the bits of the first rows -/
def Doc (kd w fl : Int) (A : Int → Int → Int) (ln : Int → Int) : Nat → List Bool → Prop
  | 0, S => S = []
  | y + 1, S => ∃ P R, Doc kd w fl A ln y P ∧ RowB kd w A ln y R ∧ S = P ++ (preB kd (oneF kd y) ++ (R ++ fillB kd fl R))
def repB (L : List Bool) : Nat → List Bool
  | 0 => []
  | n + 1 => repB L n ++ L
def endB (kd : Int) : List Bool := repB (preB' kd) (if kd < 2 then 6 else 2)
where preB' (kd : Int) : List Bool := codeB 4097 ++ (if kd = 1 then codeB 3 else [])
theorem RowB_u {kd w : Int} {A : Int → Int → Int} {ln : Int → Int} {y : Int} {R R2 : List Bool} (h : RowB kd w A ln y R) (h2 : RowB kd w A ln y R2) : R = R2 := by
  rcases h with ⟨g1, g2⟩ | ⟨g1, g2⟩ <;> rcases h2 with ⟨k1, k2⟩ | ⟨k1, k2⟩
  · rw [g2, k2]
  · omega
  · omega
  · exact Two_u g2 _ k2
theorem Doc_u {kd w fl : Int} {A : Int → Int → Int} {ln : Int → Int} : ∀ (y : Nat) {S S2 : List Bool}, Doc kd w fl A ln y S → Doc kd w fl A ln y S2 → S = S2
  | 0, S, S2, h, h2 => by rw [show S = [] from h, show S2 = [] from h2]
  | y + 1, S, S2, h, h2 => by
    obtain ⟨P, R, h3, h4, h5⟩ := h
    obtain ⟨P2, R2, k3, k4, k5⟩ := h2
    rw [h5, k5, Doc_u y h3 k3, RowB_u h4 k4]
/-- the encoded document -/
def Enc (kd w fl : Int) (A : Int → Int → Int) (ln : Int → Int) (n : Nat) (S : List Bool) : Prop := ∃ P, Doc kd w fl A ln n P ∧ S = P ++ endB kd
theorem Enc_u {kd w fl : Int} {A : Int → Int → Int} {ln : Int → Int} {n : Nat} {S S2 : List Bool} (h : Enc kd w fl A ln n S) (h2 : Enc kd w fl A ln n S2) : S = S2 := by
  obtain ⟨P, h3, h4⟩ := h
  obtain ⟨P2, k3, k4⟩ := h2
  rw [h4, k4, Doc_u n h3 k3]
theorem Doc_step {kd w fl : Int} {A : Int → Int → Int} {ln : Int → Int} {y : Int} {P R : List Bool} (h : Doc kd w fl A ln y.toNat P) (h0 : 0 ≤ y) (hR : RowB kd w A ln y R) : Doc kd w fl A ln (y + 1).toNat (P ++ (preB kd (oneF kd y) ++ (R ++ fillB kd fl R))) := by
  rw [show (y + 1).toNat = y.toNat + 1 by omega]
  exact ⟨P, R, h, by rw [show ((y.toNat : Nat) : Int) = y by omega]; exact hR, by rw [show ((y.toNat : Nat) : Int) = y by omega]⟩
def TU (tu : Int) : Prop := tu = 0 ∨ tu = 7
