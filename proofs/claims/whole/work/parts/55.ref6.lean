/-! the reference: slips, rows, nights -/
def mmM (z : zS) (n : Nat) (p : Int32) : Int32 := itr (fun i b => b + (if bitC (z.1 130 (90 + 2 * i + 1)) p = true then z.1 130 (90 + 2 * i) else 0)) n 0
theorem m_minM (E : zE) (d : Nat) (p : Int32) {n : Nat} (hn : n ≤ 7) {z : zS} (hz : z.1 130 106 = nI n) (K : Option Value → zH → Prop) : Cl E (d + 1) 182 [.ref 129, .int p] (HP z) K = K (some (.int (mmM z n p))) (HP z) := m_minutesOf E d p hn hz K
def smF (z : zS) (ns s : Nat) (hv : Int32) (i : Nat) (b : Int32) : Int32 := if bitC (z.1 130 (90 + 2 * s + 1)) (nI i) = true then b + (if nI i = hv then z.1 130 (3 * i + 1) / 2 else z.1 130 (3 * i + 1)) * z.1 130 (90 + 2 * s) / mmM z ns (nI i) * (100 - z.1 130 (30 + i)) else b
theorem m_slipsOf (E : zE) (d : Nat) {np ns s : Nat} (hnp : np ≤ 6) (hns : ns ≤ 7) (hs : s < 7) (hv : Int32) {z : zS} (hp : z.1 130 104 = nI np) (hn : z.1 130 106 = nI ns) (hm : ∀ i, i < np → bitC (z.1 130 (90 + 2 * s + 1)) (nI i) = true → ¬ mmM z ns (nI i) = 0) (K : Option Value → zH → Prop) : Cl E (d + 2) 183 [.ref 129, .int (nI s), .int hv] (HP z) K = K (some (.int (itr (smF z ns s hv) np 0))) (HP z) := by
  have hn' : np < 2 ^ 31 := by omega
  have t2 : ((2 : Int32) = 0) = False := by decide
  have es : (90 : Int32) + 2 * nI s = nI (90 + 2 * s) := by
    rw [show (90 : Int32) = nI 90 from by decide, show (2 : Int32) = nI 2 from by decide, nI_mul, nI_add]
  have loop := itr_junk (τ := Option Value) (fun i b x => Ev E (d + 2) zm_X9_slipsOf 5 [some (.ref 129), some (.int (nI s)), some (.int hv), some (.int b), some (.int (nI i)), x] [] (HP z) K) (smF z ns s hv) 0 (R := K (some (.int (itr (smF z ns s hv) np 0))) (HP z)) np (fun i x hi => by
    generalize itr _ i _ = b
    have ek : (30 : Int32) + nI i = nI (30 + i) := nI_add 30 i
    rw [e_X9_slipsOf_5]
    simp only [↓e_X9_slipsOf_11, ↓e_X9_slipsOf_14, ↓e_X9_slipsOf_17, ↓e_X9_slipsOf_24, ↓e_X9_slipsOf_27, ↓e_X9_slipsOf_33, ↓e_X9_slipsOf_39, ↓e_X9_slipsOf_41, ↓e_X9_slipsOf_44, ↓e_X9_slipsOf_50, ↓e_X9_slipsOf_54, ↓e_X9_slipsOf_61, ↓e_X9_slipsOf_68, ↓e_X9_slipsOf_69, ↓e_X9_slipsOf_80, ↓e_X9_slipsOf_86, ↓e_X9_slipsOf_90, ↓e_X9_slipsOf_96, g9 o9_129, v9 o9_129, Nat.reduceAdd, stL, es, ek, st_k (show 90 + 2 * s < 1083 by omega), st_k (show 30 + i < 1083 by omega), m_isIn E (d + 1) _ hs, m_lines E (d + 1) (show i < 6 by omega), m_minM E d _ hns hn, hp, zps_s, bI_0, zk_i, zk_r, zk_n, nI_lt_iff (show i < 2 ^ 31 by omega) hn', hi, ↓reduceIte, nI_1, t2, not_false_eq_true, true_and, smF]
    rcases (Bool.eq_false_or_eq_true (bitC (z.1 130 (90 + 2 * s + 1)) (nI i))).symm with hb | hb
    · simp only [hb, Bool.false_eq_true, ↓reduceIte]
      exact ⟨_, rfl⟩
    · have h0 := hm i hi hb
      simp only [hb, Bool.true_eq_false, ↓reduceIte]
      by_cases hh : nI i = hv
      · simp only [if_pos hh]
        simp only [hh] at h0 ⊢
        simp only [h0, not_false_eq_true, true_and]
        exact ⟨_, rfl⟩
      · simp only [if_neg hh, h0, not_false_eq_true, true_and]
        exact ⟨_, rfl⟩) (fun x => by
    rw [e_X9_slipsOf_5]
    simp only [↓e_X9_slipsOf_11, ↓e_X9_slipsOf_14, ↓e_X9_slipsOf_17, ↓e_X9_slipsOf_24, ↓e_X9_slipsOf_27, ↓e_X9_slipsOf_33, ↓e_X9_slipsOf_39, ↓e_X9_slipsOf_41, ↓e_X9_slipsOf_44, ↓e_X9_slipsOf_50, ↓e_X9_slipsOf_54, ↓e_X9_slipsOf_61, ↓e_X9_slipsOf_68, ↓e_X9_slipsOf_69, ↓e_X9_slipsOf_80, ↓e_X9_slipsOf_86, ↓e_X9_slipsOf_90, ↓e_X9_slipsOf_96, g9 o9_129, Nat.reduceAdd, stL, hp, nI_lt_iff hn' hn', Nat.lt_irrefl, ↓reduceIte]) none
  simp only [↓c_X9_slipsOf, ↓e_X9_slipsOf_0, ↓e_X9_slipsOf_11, ↓e_X9_slipsOf_14, ↓e_X9_slipsOf_17, ↓e_X9_slipsOf_24, ↓e_X9_slipsOf_27, ↓e_X9_slipsOf_33, ↓e_X9_slipsOf_39, ↓e_X9_slipsOf_41, ↓e_X9_slipsOf_44, ↓e_X9_slipsOf_50, ↓e_X9_slipsOf_54, ↓e_X9_slipsOf_61, ↓e_X9_slipsOf_68, ↓e_X9_slipsOf_69, ↓e_X9_slipsOf_80, ↓e_X9_slipsOf_86, ↓e_X9_slipsOf_90, ↓e_X9_slipsOf_96, zk_i, zk_r, zk_n]
  rw [nI_0] at loop
  exact loop
theorem m_allSlips (E : zE) (d : Nat) {np ns : Nat} (hnp : np ≤ 6) (hns : ns ≤ 7) (hv : Int32) {z : zS} (hp : z.1 130 104 = nI np) (hn : z.1 130 106 = nI ns) (hm : ∀ s, s < ns → ∀ i, i < np → bitC (z.1 130 (90 + 2 * s + 1)) (nI i) = true → ¬ mmM z ns (nI i) = 0) (K : Option Value → zH → Prop) : Cl E (d + 3) 184 [.ref 129, .int hv] (HP z) K = K (some (.int (itr (fun s b => b + itr (smF z ns s hv) np 0) ns 0))) (HP z) := by
  have hn' : ns < 2 ^ 31 := by omega
  have loop := itr_eq (fun s b => Ev E (d + 3) zm_X9_allSlips 4 [some (.ref 129), some (.int hv), some (.int b), some (.int (nI s))] [] (HP z) K) (fun s b => b + itr (smF z ns s hv) np 0) 0 ns (fun s hi => by
    generalize itr _ s _ = b
    rw [e_X9_allSlips_4]
    simp only [↓e_X9_allSlips_9, ↓e_X9_allSlips_12, ↓e_X9_allSlips_15, ↓e_X9_allSlips_22, ↓e_X9_allSlips_30, g9 o9_129, v9 o9_129, Nat.reduceAdd, stL, m_slipsOf E d hnp hns (show s < 7 by omega) hv hp hn (hm s hi), hn, zps_s, zk_i, zk_r, zk_n, nI_lt_iff (show s < 2 ^ 31 by omega) hn', hi, ↓reduceIte, nI_1])
  simp only [↓c_X9_allSlips, ↓e_X9_allSlips_0, ↓e_X9_allSlips_9, ↓e_X9_allSlips_12, ↓e_X9_allSlips_15, ↓e_X9_allSlips_22, ↓e_X9_allSlips_30, zk_i, zk_r, zk_n]
  rw [nI_0] at loop
  rw [loop, e_X9_allSlips_4]
  simp only [↓e_X9_allSlips_9, ↓e_X9_allSlips_12, ↓e_X9_allSlips_15, ↓e_X9_allSlips_22, ↓e_X9_allSlips_30, g9 o9_129, Nat.reduceAdd, stL, hn, nI_lt_iff hn' hn', Nat.lt_irrefl, ↓reduceIte]
theorem m_rowFit (E : zE) (d : Nat) {np : Nat} (hnp : np ≤ 6) {z : zS} (hp : z.1 130 104 = nI np) {g : Nat → Nat} (hg : ∀ i, i < np → z.1 135 i = nI (g i) ∧ g i < 6) (K : Option Value → zH → Prop) : Cl E (d + 2) 163 [.ref 129] (HP z) K = K (some (.int (itr (fun i b => b + fitM z (g i) i) np 0))) (HP z) := by
  have hn' : np < 2 ^ 31 := by omega
  have loop := itr_eq (fun i b => Ev E (d + 2) zm_X9_rowFit 4 [some (.ref 129), some (.int b), some (.int (nI i))] [] (HP z) K) (fun i b => b + fitM z (g i) i) 0 np (fun i hi => by
    generalize itr _ i _ = b
    rw [e_X9_rowFit_4]
    simp only [↓e_X9_rowFit_9, ↓e_X9_rowFit_12, ↓e_X9_rowFit_15, ↓e_X9_rowFit_21, ↓e_X9_rowFit_23, ↓e_X9_rowFit_27, ↓e_X9_rowFit_35, g9 o9_129, v9 o9_129, Nat.reduceAdd, stL, HP_ri i135, (hg i hi).1, m_fitOf E d (hg i hi).2 (show i < 6 by omega), hp, zps_s, zk_i, zk_r, zk_n, nI_lt_iff (show i < 2 ^ 31 by omega) hn', hi, ↓reduceIte, nI_1, nI_cl (show i < 2 ^ 31 by omega), in_nI (show i < 6 by omega) (by decide), true_and])
  simp only [↓c_X9_rowFit, ↓e_X9_rowFit_0, ↓e_X9_rowFit_9, ↓e_X9_rowFit_12, ↓e_X9_rowFit_15, ↓e_X9_rowFit_21, ↓e_X9_rowFit_23, ↓e_X9_rowFit_27, ↓e_X9_rowFit_35, zk_i, zk_r, zk_n]
  rw [nI_0] at loop
  rw [loop, e_X9_rowFit_4]
  simp only [↓e_X9_rowFit_9, ↓e_X9_rowFit_12, ↓e_X9_rowFit_15, ↓e_X9_rowFit_21, ↓e_X9_rowFit_23, ↓e_X9_rowFit_27, ↓e_X9_rowFit_35, g9 o9_129, Nat.reduceAdd, stL, hp, nI_lt_iff hn' hn', Nat.lt_irrefl, ↓reduceIte]
theorem m_leastKnown (E : zE) (d : Nat) {np : Nat} (hnp : np ≤ 6) {z : zS} (hp : z.1 130 104 = nI np) (K : Option Value → zH → Prop) : Cl E (d + 1) 187 [.ref 129] (HP z) K = K (some (.int (itr (fun i b => if 0 < z.1 130 (3 * i + 1) ∧ z.1 137 i < b then z.1 137 i else b) np 100))) (HP z) := by
  have hn' : np < 2 ^ 31 := by omega
  have loop := itr_eq (fun i b => Ev E (d + 1) zm_X9_leastKnown 5 [some (.ref 129), some (.int b), some (.int (nI i))] [] (HP z) K) (fun i b => if 0 < z.1 130 (3 * i + 1) ∧ z.1 137 i < b then z.1 137 i else b) 100 np (fun i hi => by
    generalize itr _ i _ = b
    rw [e_X9_leastKnown_5]
    simp only [↓e_X9_leastKnown_10, ↓e_X9_leastKnown_13, ↓e_X9_leastKnown_16, ↓e_X9_leastKnown_21, ↓e_X9_leastKnown_24, ↓e_X9_leastKnown_28, ↓e_X9_leastKnown_30, ↓e_X9_leastKnown_34, ↓e_X9_leastKnown_38, ↓e_X9_leastKnown_40, ↓e_X9_leastKnown_43, ↓e_X9_leastKnown_44, ↓e_X9_leastKnown_51, g9 o9_129, v9 o9_129, Nat.reduceAdd, stL, HP_ri i137, m_lines E d (show i < 6 by omega), hp, zps_s, zk_i, zk_r, zk_n, nI_lt_iff (show i < 2 ^ 31 by omega) hn', hi, ↓reduceIte, nI_1, nI_cl (show i < 2 ^ 31 by omega), in_nI (show i < 6 by omega) (by decide), true_and]
    by_cases h1 : 0 < z.1 130 (3 * i + 1) <;> by_cases h2 : z.1 137 i < b <;> simp only [h1, h2, ↓reduceIte, and_self, and_true, true_and, false_and, and_false])
  simp only [↓c_X9_leastKnown, ↓e_X9_leastKnown_0, ↓e_X9_leastKnown_10, ↓e_X9_leastKnown_13, ↓e_X9_leastKnown_16, ↓e_X9_leastKnown_21, ↓e_X9_leastKnown_24, ↓e_X9_leastKnown_28, ↓e_X9_leastKnown_30, ↓e_X9_leastKnown_34, ↓e_X9_leastKnown_38, ↓e_X9_leastKnown_40, ↓e_X9_leastKnown_43, ↓e_X9_leastKnown_44, ↓e_X9_leastKnown_51, zk_i, zk_r, zk_n]
  rw [nI_0] at loop
  rw [loop, e_X9_leastKnown_5]
  simp only [↓e_X9_leastKnown_10, ↓e_X9_leastKnown_13, ↓e_X9_leastKnown_16, ↓e_X9_leastKnown_21, ↓e_X9_leastKnown_24, ↓e_X9_leastKnown_28, ↓e_X9_leastKnown_30, ↓e_X9_leastKnown_34, ↓e_X9_leastKnown_38, ↓e_X9_leastKnown_40, ↓e_X9_leastKnown_43, ↓e_X9_leastKnown_44, ↓e_X9_leastKnown_51, g9 o9_129, Nat.reduceAdd, stL, hp, nI_lt_iff hn' hn', Nat.lt_irrefl, ↓reduceIte]
