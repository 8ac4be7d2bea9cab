/-! the reference: status -/
theorem m_status (E : zE) (d : Nat) (w : Int32) (z : zS) (K : Option Value → zH → Prop) : Cl E (d + 1) 221 [.ref 129, .int w] (HP z) K = if inL w.toInt64 0 2 = true then (vp_in w 3 ∧ K (some (.int (z.1 132 w.toNatClampNeg))) (HP z)) else K (some (.int (-1))) (HP (set2 z.1 132 0 (z.1 132 0 + 1), z.2)) := by
  have h := m_refuse E d (show 0 < 3 by decide) (-1) z
  rw [nI_0] at h
  simp only [↓c_X9_status, ↓e_X9_status_0, ↓e_X9_status_9, ↓e_X9_status_12, ↓e_X9_status_16, ↓e_X9_status_18, ↓e_X9_status_21, ↓e_X9_status_27, g9 o9_129, v9 o9_129, Nat.reduceAdd, m_in, h, HP_ri i132, bI_0, zps_s, zk_i, zk_r, zk_n]
  cases inL w.toInt64 0 2 <;> simp
