/-! the reference: hours, rankOrLast, night, slips -/
theorem m_hours (E : zE) (d : Nat) {p c : Nat} (hp : p < 6) (hc : c < 6) {z : zS} (hl : ¬ z.1 130 (36 + 5 * c + 0) = 0) (K : Option Value → zH → Prop) : Cl E (d + 1) 196 [.ref 129, .int (nI p), .int (nI c)] (HP z) K = K (some (.int ((z.1 130 (3 * p + 1) + z.1 130 (36 + 5 * c + 0) - 1) / z.1 130 (36 + 5 * c + 0)))) (HP z) := by
  have o0 := m_of E d hc (show 0 < 5 by decide) z
  rw [show nI 0 = 0 from by decide] at o0
  simp only [↓c_X9_hours, ↓e_X9_hours_0, ↓e_X9_hours_5, ↓e_X9_hours_11, ↓e_X9_hours_20, ↓e_X9_hours_21, v9 o9_129, m_lines E d hp, o0, zps_s, hl, not_false_eq_true, true_and, zk_i, zk_r, zk_n]
theorem m_rankOrLast (E : zE) (d : Nat) {c : Nat} (hc : c < 6) (p : Int32) (z : zS) (K : Option Value → zH → Prop) : Cl E (d + 1) 204 [.ref 129, .int (nI c), .int p] (HP z) K = K (some (.int (if p = -1 then 3 else rkF (z.1 130 (66 + 3 * c)) (z.1 130 (66 + 3 * c + 1)) (z.1 130 (66 + 3 * c + 2)) p))) (HP z) := by
  simp only [↓c_X9_rankOrLast, ↓e_X9_rankOrLast_0, ↓e_X9_rankOrLast_5, ↓e_X9_rankOrLast_9, ↓e_X9_rankOrLast_15, v9 o9_129, m_rank E d hc, zps_s, zk_i, zk_r, zk_n]
  by_cases h : p = -1 <;> simp only [h, ↓reduceIte]
theorem mvF_r {r a q b i : Nat} {f : Nat → Nat → Int32} {o : Nat} (h : o ≠ r) : mvF r a q b i f o = f o := by
  unfold mvF
  rw [set2_R, setR_n h]
theorem mv_r {r a q b : Nat} {f : Nat → Nat → Int32} {o : Nat} (h : o ≠ r) : ∀ n, itr (mvF r a q b) n f o = f o
  | 0 => rfl
  | n + 1 => (mvF_r h).trans (mv_r h n)
theorem okC_c {z z' : zS} (h : z.1 130 = z'.1 130) {np : Nat} (hc : okC z np) : okC z' np := by
  unfold okC at *
  rw [← h]
  exact hc
theorem m_night (E : zE) (d : Nat) {np : Nat} (hnp : np ≤ 6) {z : zS} (hp : z.1 130 104 = nI np) (hc : okC z np) (K : Option Value → zH → Prop) : Cl E (d + 2) 179 [.ref 129] (HP z) K = K (some (.int 1)) (HP (itr (mvF 130 30 137 0) 6 (setR (itr (mvF 137 0 130 30) 6 z.1) 137 (itr (anF (itr (mvF 137 0 130 30) 6 z.1, z.2)) np (itr (mvF 137 0 130 30) 6 z.1 137))), z.2)) := by
  have h1 : (130 : Nat) ≠ 137 := by decide
  have hr : (itr (mvF 137 0 130 30) 6 z.1) 130 = z.1 130 := mv_r h1 6
  have a := m_aNight E d hnp (z := (itr (mvF 137 0 130 30) 6 z.1, z.2)) (by show itr (mvF 137 0 130 30) 6 z.1 130 104 = nI np; rw [hr]; exact hp) (okC_c (z := z) hr.symm hc)
  have t := m_takesKnown E (d + 1) z.1 z.2
  simp only [↓c_X9_night, ↓e_X9_night_0, ↓e_X9_night_4, ↓e_X9_night_8, ↓e_X9_night_12, v9 o9_129, t, a, m_putsKnown, zps_n, zk_i, zk_r, zk_n]
