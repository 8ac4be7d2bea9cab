/-! READ: needs, isGood, readNumber, is, in the reference -/
section F3
variable {tx : Nat → Int32} {nl : Nat}
theorem m_isGood (E : zE) (d : Nat) (z : zS) (K : Option Value → zH → Prop) : Cl E d 140 [.ref 129] (HP z) K = K (some (.int (bI (decide (z.1 129 8 = -1))))) (HP z) := by
  by_cases h : z.1 129 8 = -1
  · simp only [↓c_X9_isGood, ↓e_X9_isGood_0, ↓e_X9_isGood_4, ↓e_X9_isGood_8, ↓e_X9_isGood_12, ↓e_X9_isGood_13, g9 o9_129, h, decide_true, bI_t, or_true, true_and, zk_i, zk_r, zk_n, ↓reduceIte]
  · simp only [↓c_X9_isGood, ↓e_X9_isGood_0, ↓e_X9_isGood_4, ↓e_X9_isGood_8, ↓e_X9_isGood_12, ↓e_X9_isGood_13, g9 o9_129, h, decide_false, bI_f, true_or, true_and, zk_i, zk_r, zk_n, ↓reduceIte]
theorem m_needs1 (E : zE) (d : Nat) (z : zS) (K : Option Value → zH → Prop) : Cl E d 139 [.ref 129, .int 1] (HP z) K = K none (HP z) := by
  simp only [↓c_X9_needs, ↓e_X9_needs_0, ↓e_X9_needs_4, ↓e_X9_needs_8, ↓e_X9_needs_12, ↓e_X9_needs_17, ↓e_X9_needs_20, i01, zk_i, zk_r, zk_n, ↓reduceIte]
theorem m_needs0 (E : zE) (d : Nat) {f : Nat → Nat → Int32} {t : (Nat → Nat → Int64) × Nat} (h : f 129 8 = -1) (K : Option Value → zH → Prop) : Cl E d 139 [.ref 129, .int 0] (HP (f, t)) K = K none (HP (set2 f 129 8 (f 129 5), t)) := by
  have w := fun K => (p9 o9_129).2.2.2.2.1 (f, t) (f 129 5) K
  simp only [↓c_X9_needs, ↓e_X9_needs_0, ↓e_X9_needs_4, ↓e_X9_needs_8, ↓e_X9_needs_12, ↓e_X9_needs_17, ↓e_X9_needs_20, g9 o9_129, h, w, zk_i, zk_r, zk_n, ↓reduceIte]
theorem m_needs2 (E : zE) (d : Nat) {f : Nat → Nat → Int32} {t : (Nat → Nat → Int64) × Nat} (h : ¬ f 129 8 = -1) (v : Int32) (K : Option Value → zH → Prop) : Cl E d 139 [.ref 129, .int v] (HP (f, t)) K = K none (HP (f, t)) := by
  by_cases q : v = 0
  · have q' : (v = 0) = True := eq_true q
    simp only [↓c_X9_needs, ↓e_X9_needs_0, ↓e_X9_needs_4, ↓e_X9_needs_8, ↓e_X9_needs_12, ↓e_X9_needs_17, ↓e_X9_needs_20, g9 o9_129, q', h, zk_i, zk_r, zk_n, ↓reduceIte]
  · simp only [↓c_X9_needs, ↓e_X9_needs_0, ↓e_X9_needs_4, ↓e_X9_needs_8, ↓e_X9_needs_12, ↓e_X9_needs_17, ↓e_X9_needs_20, g9 o9_129, q, zk_i, zk_r, zk_n, ↓reduceIte]
end F3
