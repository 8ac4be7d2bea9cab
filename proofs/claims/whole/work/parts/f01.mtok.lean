/-! READ: tokens, in the reference -/
section F1
variable {tx : Nat → Int32} {nl : Nat}
def RM (f : Nat → Nat → Int32) (tx : Nat → Int32) (nl : Nat) : Prop := f 130 120 = nI nl ∧ nl ≤ 240 ∧ (∀ j, j < nl → f 130 (121 + j) = tx j ∧ ¬ tx j < 0) ∧ ∀ j, nl ≤ j → tx j = -1
theorem in_lt (x : Int32) : inL x.toInt64 97 122 = ltB x := by
  unfold inL ltB
  have e1 : decide (¬ x.toInt64 < 97) = !decide (x < 97) := by
    rw [← decide_not]
    refine decide_eq_decide.mpr (not_congr ?_)
    rw [Int64.lt_iff_toInt_lt, Int32.lt_iff_toInt_lt, Int32.toInt_toInt64]
    exact Iff.rfl
  have e2 : decide (¬ 122 < x.toInt64) = !decide (122 < x) := by
    rw [← decide_not]
    refine decide_eq_decide.mpr (not_congr ?_)
    rw [Int64.lt_iff_toInt_lt, Int32.lt_iff_toInt_lt, Int32.toInt_toInt64]
    exact Iff.rfl
  rw [e1, e2]
theorem in_fg (x : Int32) : inL x.toInt64 48 57 = fgB x := by
  unfold inL fgB
  have e1 : decide (¬ x.toInt64 < 48) = !decide (x < 48) := by
    rw [← decide_not]
    refine decide_eq_decide.mpr (not_congr ?_)
    rw [Int64.lt_iff_toInt_lt, Int32.lt_iff_toInt_lt, Int32.toInt_toInt64]
    exact Iff.rfl
  have e2 : decide (¬ 57 < x.toInt64) = !decide (57 < x) := by
    rw [← decide_not]
    refine decide_eq_decide.mpr (not_congr ?_)
    rw [Int64.lt_iff_toInt_lt, Int32.lt_iff_toInt_lt, Int32.toInt_toInt64]
    exact Iff.rfl
  rw [e1, e2]
theorem n121 (j : Nat) : (121 : Int32) + nI j = nI (121 + j) := by rw [show (121 : Int32) = nI 121 from by decide, nI_add]
theorem n120 : (120 : Int32) = nI 120 := by decide
theorem m_look (E : zE) (d : Nat) {z : zS} (hx : RM z.1 tx nl) {j : Nat} (hj : j < 1000) (K : Option Value → zH → Prop) : Cl E d 136 [.ref 129, .int (nI j)] (HP z) K = K (some (.int (tx j))) (HP z) := by
  have r := ri_k i130 (show 120 < 1083 by decide) (by decide) E z
  have h240 := hx.2.1
  by_cases q : j < nl
  · have r2 := ri_k i130 (show 121 + j < 1083 by omega) (by decide) E z
    simp only [↓c_X9_look, ↓e_X9_look_0, ↓e_X9_look_5, ↓e_X9_look_8, ↓e_X9_look_11, ↓e_X9_look_15, ↓e_X9_look_20, ↓e_X9_look_23, ↓e_X9_look_24, g9 o9_129, Nat.reduceAdd, n120, n121, r, hx.1, nI_lt_iff (show j < 2 ^ 31 by omega) (show nl < 2 ^ 31 by omega), q, r2, (hx.2.2.1 j q).1, zk_i, zk_r, zk_n, ↓reduceIte]
  · simp only [↓c_X9_look, ↓e_X9_look_0, ↓e_X9_look_5, ↓e_X9_look_8, ↓e_X9_look_11, ↓e_X9_look_15, ↓e_X9_look_20, ↓e_X9_look_23, ↓e_X9_look_24, g9 o9_129, Nat.reduceAdd, n120, n121, r, hx.1, nI_lt_iff (show j < 2 ^ 31 by omega) (show nl < 2 ^ 31 by omega), q, hx.2.2.2 j (by omega), zk_i, zk_r, zk_n, ↓reduceIte]
end F1
