/-! the reference: small methods over HP -/
def inL (a b c : Int64) : Bool := decide (¬ a < b) && decide (¬ c < a)
theorem m_in (E : zE) (d : Nat) (a b c : Int64) (h : zH) (K : Option Value → zH → Prop) : Cl E d 128 [.long a, .long b, .long c] h K = K (some (.int (bI (inL a b c)))) h := by
  simp only [↓c_X9_in, ↓e_X9_in_0, ↓e_X9_in_6, ↓e_X9_in_13, ↓e_X9_in_17, ↓e_X9_in_18, zk_l, zk_n, propext (lg_cmp_lt a b), propext (lg_cmp_gt a c), inL]
  by_cases h1 : a < b
  · simp [h1, bI]
  · by_cases h2 : c < a <;> simp [h1, h2, bI]
theorem inL_t {a b c : Int64} : inL a b c = true ↔ b.toInt ≤ a.toInt ∧ a.toInt ≤ c.toInt := by
  unfold inL
  simp only [Bool.and_eq_true, decide_eq_true_eq, Int64.lt_iff_toInt_lt, Int.not_lt]
theorem nI_m1 {n : Nat} (h : n < 2 ^ 31) : (nI n - 1).toInt = (n : Int) - 1 := by
  cases n with
  | zero => decide
  | succ n =>
    rw [nI_pred, nI_toInt (by omega)]
    omega
theorem inL_nI {p : Int32} {n : Nat} (h : n < 2 ^ 31) : inL p.toInt64 0 (nI n - 1).toInt64 = inB p (nI n) := by
  have e : (inL p.toInt64 0 (nI n - 1).toInt64 = true) = (inB p (nI n) = true) := by
    refine propext ?_
    rw [inL_t, inB_t, Int32.lt_iff_toInt_lt, Int32.lt_iff_toInt_lt, Int32.toInt_toInt64, Int32.toInt_toInt64, nI_m1 h, nI_toInt h]
    show (0 : Int) ≤ _ ∧ _ ↔ ¬ _ < (0 : Int) ∧ _
    omega
  cases h1 : inL p.toInt64 0 (nI n - 1).toInt64 <;> cases h2 : inB p (nI n) <;> simp [h1, h2] at e ⊢
theorem m_flag (E : zE) (d : Nat) (b : Bool) (h : zH) (K : Option Value → zH → Prop) : Cl E d 129 [.int (bI b)] h K = K (some (.int (bI b))) h := by
  simp only [↓c_X9_flag, ↓e_X9_flag_0, ↓e_X9_flag_4, ↓e_X9_flag_8, ↓e_X9_flag_9, zk_i, bI_0]
  cases b <;> simp [bI]
theorem i130 : isI 130 1083 := rfl
theorem i132 : isI 132 3 := rfl
theorem i133 : isI 133 110 := rfl
theorem i134 : isI 134 6 := rfl
theorem i135 : isI 135 6 := rfl
theorem i136 : isI 136 6 := rfl
theorem i137 : isI 137 6 := rfl
theorem i138 : isI 138 18 := rfl
theorem i139 : isI 139 6 := rfl
theorem m_refuse (E : zE) (d : Nat) {k : Nat} (hk : k < 3) (a : Int32) (z : zS) (K : Option Value → zH → Prop) : Cl E d 130 [.ref 129, .int (nI k), .int a] (HP z) K = K (some (.int a)) (HP (set2 z.1 132 k (z.1 132 k + 1), z.2)) := by
  simp only [↓c_X9_refuse, ↓e_X9_refuse_0, ↓e_X9_refuse_4, ↓e_X9_refuse_7, ↓e_X9_refuse_10, g9 o9_129, Nat.reduceAdd, HP_ri i132, HP_wi i132, zk_i, zk_r, zk_n, nI_cl (show k < 2 ^ 31 by omega), in_nI hk (by decide), true_and]
theorem m_bad (E : zE) (d : Nat) (z : zS) (K : Option Value → zH → Prop) : Cl E (d + 1) 131 [.ref 129] (HP z) K = K (some (.int (-2))) (HP (set2 z.1 132 0 (z.1 132 0 + 1), z.2)) := by
  have h := m_refuse E d (show 0 < 3 by decide) (-2) z
  rw [nI_0] at h
  simp only [↓c_X9_bad, ↓e_X9_bad_0, ↓e_X9_bad_7, v9 o9_129, h, zps_s, zk_i, zk_r, zk_n]
theorem m_isPart (E : zE) (d : Nat) {n : Nat} (hn : n < 2 ^ 31) {z : zS} (hz : z.1 130 104 = nI n) (p : Int32) (K : Option Value → zH → Prop) : Cl E (d + 1) 149 [.ref 129, .int p] (HP z) K = K (some (.int (bI (inB p (nI n))))) (HP z) := by
  have e : (104 : Int32) = nI 104 := by decide
  simp only [↓c_X9_isPart, ↓e_X9_isPart_0, ↓e_X9_isPart_7, ↓e_X9_isPart_10, ↓e_X9_isPart_16, g9 o9_129, Nat.reduceAdd, e, HP_ri i130, zk_i, zk_r, zk_n, nI_cl (show 104 < 2 ^ 31 by decide), in_nI (show 104 < 1083 by decide) (by decide), true_and, hz, m_in, inL_nI hn, zps_s, bI_01]
theorem m_isChild (E : zE) (d : Nat) {n : Nat} (hn : n < 2 ^ 31) {z : zS} (hz : z.1 130 105 = nI n) (p : Int32) (K : Option Value → zH → Prop) : Cl E (d + 1) 150 [.ref 129, .int p] (HP z) K = K (some (.int (bI (inB p (nI n))))) (HP z) := by
  have e : (105 : Int32) = nI 105 := by decide
  simp only [↓c_X9_isChild, ↓e_X9_isChild_0, ↓e_X9_isChild_7, ↓e_X9_isChild_10, ↓e_X9_isChild_16, g9 o9_129, Nat.reduceAdd, e, HP_ri i130, zk_i, zk_r, zk_n, nI_cl (show 105 < 2 ^ 31 by decide), in_nI (show 105 < 1083 by decide) (by decide), true_and, hz, m_in, inL_nI hn, zps_s, bI_01]
theorem m_isScene (E : zE) (d : Nat) {n : Nat} (hn : n < 2 ^ 31) {z : zS} (hz : z.1 130 106 = nI n) (p : Int32) (K : Option Value → zH → Prop) : Cl E (d + 1) 171 [.ref 129, .int p] (HP z) K = K (some (.int (bI (inB p (nI n))))) (HP z) := by
  have e : (106 : Int32) = nI 106 := by decide
  simp only [↓c_X9_isScene, ↓e_X9_isScene_0, ↓e_X9_isScene_7, ↓e_X9_isScene_10, ↓e_X9_isScene_16, g9 o9_129, Nat.reduceAdd, e, HP_ri i130, zk_i, zk_r, zk_n, nI_cl (show 106 < 2 ^ 31 by decide), in_nI (show 106 < 1083 by decide) (by decide), true_and, hz, m_in, inL_nI hn, zps_s, bI_01]
theorem nI_mul (a b : Nat) : nI a * nI b = nI (a * b) := (Int32.ofNat_mul a b).symm
theorem m_of (E : zE) (d : Nat) {c k : Nat} (hc : c < 6) (hk : k < 5) (z : zS) (K : Option Value → zH → Prop) : Cl E d 151 [.ref 129, .int (nI c), .int (nI k)] (HP z) K = K (some (.int (z.1 130 (36 + 5 * c + k)))) (HP z) := by
  have e : (36 + (5 * nI c)) + nI k = nI (36 + 5 * c + k) := by
    rw [show (36 : Int32) = nI 36 from by decide, show (5 : Int32) = nI 5 from by decide, nI_mul, nI_add, nI_add]
  simp only [↓c_X9_of, ↓e_X9_of_0, ↓e_X9_of_4, ↓e_X9_of_13, g9 o9_129, Nat.reduceAdd, e, HP_ri i130, zk_i, zk_r, zk_n, nI_cl (show 36 + 5 * c + k < 2 ^ 31 by omega), in_nI (show 36 + 5 * c + k < 1083 by omega) (by decide), true_and]
theorem m_lines (E : zE) (d : Nat) {p : Nat} (hp : p < 6) (z : zS) (K : Option Value → zH → Prop) : Cl E d 152 [.ref 129, .int (nI p)] (HP z) K = K (some (.int (z.1 130 (3 * p + 1)))) (HP z) := by
  have e : (0 + (3 * nI p)) + 1 = nI (3 * p + 1) := by
    rw [show (0 : Int32) = nI 0 from by decide, show (3 : Int32) = nI 3 from by decide, nI_mul, nI_add, nI_1, Nat.zero_add]
  simp only [↓c_X9_lines, ↓e_X9_lines_0, ↓e_X9_lines_4, ↓e_X9_lines_12, g9 o9_129, Nat.reduceAdd, e, HP_ri i130, zk_i, zk_r, zk_n, nI_cl (show 3 * p + 1 < 2 ^ 31 by omega), in_nI (show 3 * p + 1 < 1083 by omega) (by decide), true_and]
def bitC (x p : Int32) : Bool := decide (x >>> (p &&& 31) &&& 1 = 1)
theorem m_isIn (E : zE) (d : Nat) {s : Nat} (p : Int32) (hs : s < 7) (z : zS) (K : Option Value → zH → Prop) : Cl E d 156 [.ref 129, .int p, .int (nI s)] (HP z) K = K (some (.int (bI (bitC (z.1 130 (90 + 2 * s + 1)) p)))) (HP z) := by
  have e : (90 + (2 * nI s)) + 1 = nI (90 + 2 * s + 1) := by
    rw [show (90 : Int32) = nI 90 from by decide, show (2 : Int32) = nI 2 from by decide, nI_mul, nI_add, nI_1]
  simp only [↓c_X9_isIn, ↓e_X9_isIn_0, ↓e_X9_isIn_4, ↓e_X9_isIn_13, ↓e_X9_isIn_21, ↓e_X9_isIn_25, ↓e_X9_isIn_26, g9 o9_129, Nat.reduceAdd, e, HP_ri i130, zk_i, zk_r, zk_n, nI_cl (show 90 + 2 * s + 1 < 2 ^ 31 by omega), in_nI (show 90 + 2 * s + 1 < 1083 by omega) (by decide), true_and, bitC]
  by_cases hb : z.1 130 (90 + 2 * s + 1) >>> (p &&& 31) &&& 1 = 1
  · simp [hb, bI]
  · simp [hb, bI]
