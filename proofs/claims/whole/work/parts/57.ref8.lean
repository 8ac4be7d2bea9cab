/-! the reference: small publics -/
theorem ri_k {o n k : Nat} (ho : isI o n) (hk : k < n) (hn : n < 2 ^ 31) (E : zE) (z : zS) (K : Int32 → Prop) : zri E (HP z) o (nI k) K = K (z.1 o k) := by
  rw [HP_ri ho, nI_cl (show k < 2 ^ 31 by omega), in_nI hk hn, true_and]
theorem wi_k {o n k : Nat} (ho : isI o n) (hk : k < n) (hn : n < 2 ^ 31) (z : zS) (x : Int32) (K : zH → Prop) : zwi (HP z) o (nI k) x K = K (HP (set2 z.1 o k x, z.2)) := by
  rw [HP_wi ho, nI_cl (show k < 2 ^ 31 by omega), in_nI hk hn, true_and]
theorem w109 (z : zS) (x : Int32) (K : zH → Prop) : zwi (HP z) 130 109 x K = K (HP (set2 z.1 130 109 x, z.2)) := wi_k (k := 109) i130 (by decide) (by decide) z x K
theorem w120 (z : zS) (x : Int32) (K : zH → Prop) : zwi (HP z) 130 120 x K = K (HP (set2 z.1 130 120 x, z.2)) := wi_k (k := 120) i130 (by decide) (by decide) z x K
theorem m_clear (E : zE) (d : Nat) (z : zS) (K : Option Value → zH → Prop) : Cl E d 135 [.ref 129] (HP z) K = K (some (.int (z.1 130 120))) (HP (set2 z.1 130 120 0, z.2)) := by
  simp only [↓c_X9_clear, ↓e_X9_clear_0, ↓e_X9_clear_4, ↓e_X9_clear_7, ↓e_X9_clear_12, ↓e_X9_clear_16, g9 o9_129, Nat.reduceAdd, stL, w120, zk_i, zk_r, zk_n]
theorem m_forget (E : zE) (d : Nat) (z : zS) (K : Option Value → zH → Prop) : Cl E d 210 [.ref 129] (HP z) K = K (some (.int (z.1 130 109))) (HP (set2 z.1 130 109 0, z.2)) := by
  simp only [↓c_X9_forget, ↓e_X9_forget_0, ↓e_X9_forget_4, ↓e_X9_forget_7, ↓e_X9_forget_12, ↓e_X9_forget_16, g9 o9_129, Nat.reduceAdd, stL, w109, zk_i, zk_r, zk_n]
theorem m_known (E : zE) (d : Nat) {n : Nat} (hn : n ≤ 6) {z : zS} (hz : z.1 130 104 = nI n) (p : Int32) (K : Option Value → zH → Prop) : Cl E (d + 2) 180 [.ref 129, .int p] (HP z) K = if inB p (nI n) = true then K (some (.int (z.1 130 (30 + p.toNatClampNeg)))) (HP z) else K (some (.int (-2))) (HP (set2 z.1 132 0 (z.1 132 0 + 1), z.2)) := by
  simp only [↓c_X9_known, ↓e_X9_known_0, ↓e_X9_known_5, ↓e_X9_known_8, ↓e_X9_known_12, ↓e_X9_known_17, ↓e_X9_known_20, ↓e_X9_known_24, g9 o9_129, v9 o9_129, Nat.reduceAdd, m_isPart E d (show n < 2 ^ 31 by omega) hz, m_bad, bI_0, zps_s, zk_i, zk_r, zk_n]
  cases hb : inB p (nI n)
  · simp
  · obtain ⟨j, hj, rfl⟩ := of_inB rfl (show n < 2 ^ 31 by omega) hb
    have e : (30 : Int32) + nI j = nI (30 + j) := nI_add 30 j
    simp [e, st_k (show 30 + j < 1083 by omega), nI_cl (show j < 2 ^ 31 by omega)]
theorem m_sat (E : zE) (d : Nat) {n : Nat} (hn : n ≤ 6) {z : zS} (hz : z.1 130 105 = nI n) (p : Int32) (K : Option Value → zH → Prop) : Cl E (d + 2) 181 [.ref 129, .int p] (HP z) K = if inB p (nI n) = true then K (some (.int (z.1 130 (84 + p.toNatClampNeg)))) (HP z) else K (some (.int (-2))) (HP (set2 z.1 132 0 (z.1 132 0 + 1), z.2)) := by
  simp only [↓c_X9_sat, ↓e_X9_sat_0, ↓e_X9_sat_5, ↓e_X9_sat_8, ↓e_X9_sat_12, ↓e_X9_sat_17, ↓e_X9_sat_20, ↓e_X9_sat_24, g9 o9_129, v9 o9_129, Nat.reduceAdd, m_isChild E d (show n < 2 ^ 31 by omega) hz, m_bad, bI_0, zps_s, zk_i, zk_r, zk_n]
  cases hb : inB p (nI n)
  · simp
  · obtain ⟨j, hj, rfl⟩ := of_inB rfl (show n < 2 ^ 31 by omega) hb
    have e : (84 : Int32) + nI j = nI (84 + j) := nI_add 84 j
    simp [e, st_k (show 84 + j < 1083 by omega), nI_cl (show j < 2 ^ 31 by omega)]
theorem m_fit (E : zE) (d : Nat) {np nc : Nat} (hnp : np ≤ 6) (hnc : nc ≤ 6) {z : zS} (hp : z.1 130 104 = nI np) (hc : z.1 130 105 = nI nc) (c p : Int32) (K : Option Value → zH → Prop) : Cl E (d + 2) 155 [.ref 129, .int c, .int p] (HP z) K = if (inB c (nI nc) && inB p (nI np)) = true then K (some (.int (fitM z c.toNatClampNeg p.toNatClampNeg))) (HP z) else K (some (.int (-2))) (HP (set2 z.1 132 0 (z.1 132 0 + 1), z.2)) := by
  simp only [↓c_X9_fit, ↓e_X9_fit_0, ↓e_X9_fit_5, ↓e_X9_fit_8, ↓e_X9_fit_13, ↓e_X9_fit_16, ↓e_X9_fit_22, ↓e_X9_fit_25, ↓e_X9_fit_29, v9 o9_129, m_isPart E d (show np < 2 ^ 31 by omega) hp, m_isChild E d (show nc < 2 ^ 31 by omega) hc, m_bad, bI_0, zps_s, zk_i, zk_r, zk_n]
  cases hb : inB c (nI nc)
  · simp
  · obtain ⟨j, hj, rfl⟩ := of_inB rfl (show nc < 2 ^ 31 by omega) hb
    cases hb2 : inB p (nI np)
    · simp
    · obtain ⟨k, hk, rfl⟩ := of_inB rfl (show np < 2 ^ 31 by omega) hb2
      simp [m_fitOf E d (show j < 6 by omega) (show k < 6 by omega), nI_cl (show j < 2 ^ 31 by omega), nI_cl (show k < 2 ^ 31 by omega), zps_s, ↓c_X9_fit, ↓e_X9_fit_0, ↓e_X9_fit_5, ↓e_X9_fit_8, ↓e_X9_fit_13, ↓e_X9_fit_16, ↓e_X9_fit_22, ↓e_X9_fit_25, ↓e_X9_fit_29]
theorem m_clash (E : zE) (d : Nat) {np ns ch : Nat} (hnp : np ≤ 6) (hns : ns ≤ 7) (hch : ch ≤ 3) {z : zS} (hp : z.1 130 104 = nI np) (hs : z.1 130 106 = nI ns) (hc : z.1 130 107 = nI ch) (a b : Int32) (K : Option Value → zH → Prop) : Cl E (d + 2) 158 [.ref 129, .int a, .int b] (HP z) K = if (inB a (nI np) && inB b (nI np) && !decide (a = b)) = true then K (some (.int (bI (ccB z ns ch a b)))) (HP z) else K (some (.int (-2))) (HP (set2 z.1 132 0 (z.1 132 0 + 1), z.2)) := by
  simp only [↓c_X9_clash, ↓e_X9_clash_0, ↓e_X9_clash_5, ↓e_X9_clash_8, ↓e_X9_clash_13, ↓e_X9_clash_16, ↓e_X9_clash_21, ↓e_X9_clash_27, ↓e_X9_clash_30, ↓e_X9_clash_33, ↓e_X9_clash_37, v9 o9_129, m_isPart E d (show np < 2 ^ 31 by omega) hp, m_clashes E d _ _ hns hch hs hc, m_flag, m_bad, bI_0, zps_s, zk_i, zk_r, zk_n]
  cases inB a (nI np) <;> cases inB b (nI np) <;> by_cases hab : a = b <;> simp [hab]
def coM (z : zS) (w : Int32) : Int32 := if w = 0 then z.1 130 104 else if w = 1 then z.1 130 105 else if w = 2 then z.1 130 106 else if w = 3 then z.1 130 109 else z.1 130 120
theorem m_countOf (E : zE) (d : Nat) {k : Nat} (hk : k < 5) (z : zS) (K : Option Value → zH → Prop) : Cl E d 222 [.ref 129, .int (nI k)] (HP z) K = K (some (.int (coM z (nI k)))) (HP z) := by
  have e : (104 : Int32) + nI k = nI (104 + k) := nI_add 104 k
  simp only [↓c_X9_countOf, ↓e_X9_countOf_0, ↓e_X9_countOf_5, ↓e_X9_countOf_9, ↓e_X9_countOf_14, ↓e_X9_countOf_17, ↓e_X9_countOf_22, ↓e_X9_countOf_26, ↓e_X9_countOf_29, ↓e_X9_countOf_32, ↓e_X9_countOf_36, ↓e_X9_countOf_39, g9 o9_129, Nat.reduceAdd, stL, e, st_k (show 104 + k < 1083 by omega), lt_lit (n := 3) (x := 3) (by decide) (show k < 2 ^ 31 by omega) (by decide), zk_i, zk_r, zk_n, coM]
  rcases (show k = 0 ∨ k = 1 ∨ k = 2 ∨ k = 3 ∨ k = 4 by omega) with h | h | h | h | h <;> subst h <;> rfl
theorem m_notes (E : zE) (d : Nat) (v : Int64) (z : zS) (K : Option Value → zH → Prop) : Cl E d 224 [.ref 129, .long v] (HP z) K = K none (HP (z.1, set2L z.2.1 129 21 (31 * z.2.1 129 21 + v), z.2.2)) := by
  simp only [↓c_X9_notes, ↓e_X9_notes_0, ↓e_X9_notes_8, ↓e_X9_notes_14, g9 o9_129, p9 o9_129, zk_i, zk_r, zk_n, zk_l]
