/-! READ: readNumber, in the reference -/
section F5
variable {tx : Nat → Int32} {nl : Nat}
theorem in_999 {lo hb : Nat} (hh : hb ≤ 100) : inL (999 : Int32).toInt64 (nI lo).toInt64 (nI hb - 1).toInt64 = false := by
  unfold inL
  have e2 : (nI hb - 1).toInt64 < (999 : Int32).toInt64 := by
    rw [Int64.lt_iff_toInt_lt, Int32.toInt_toInt64, Int32.toInt_toInt64, ← Int32.lt_iff_toInt_lt, iI_n hb, show (1 : Int32) = iI 1 from by decide, iI_sub, show (999 : Int32) = iI 999 from by decide, iI_lt (by omega) (by omega) (by omega) (by omega)]
    omega
  rw [decide_eq_false (show ¬ ¬ (nI hb - 1).toInt64 < (999 : Int32).toInt64 from fun h => h e2), Bool.and_false]
theorem m_rnG (E : zE) (d : Nat) {f : Nat → Nat → Int32} {t : (Nat → Nat → Int64) × Nat} (hx : RM f tx nl) {s e n lo hb s' e' : Nat} {k' v' lv hv : Int32} (h : LD4 f s e 2 (nI n)) (h1 : lo ≤ n) (h2 : n < hb) (hn : n ≤ 99) (hh : hb ≤ 100) (el : lv = nI lo) (eh : hv = nI hb - 1) (hT : Tok tx e s' e' k' v') (he : e' ≤ 241) : Hr E (d + 2) 141 [.ref 129, .int lv, .int hv] (f, t) (fun r z' => r = some (.int (nI n)) ∧ z'.2 = t ∧ FrM f z'.1 ∧ LD4 z'.1 s' e' k' v') := by
  subst el
  subst eh
  obtain ⟨a1, a2, a3, a4⟩ := h
  have a3 : f 129 6 = 2 ∧ f 129 7 = nI n := by
    rcases a3 with ⟨b1, b2⟩ | ⟨b1, -⟩
    · exact ⟨b1, b2 rfl⟩
    · exact absurd b1 (by decide)
  obtain ⟨r, z1, ⟨e1, e2, e3, e4, e5, e6⟩, kk⟩ := Hr_use (m_token E d (t := t) hx hT he a1)
  subst e1
  have q6 : (f 129 6 = 2) = True := eq_true a3.1
  have inn : inL (nI n).toInt64 (nI lo).toInt64 (nI hb - 1).toInt64 = true := by rw [in_nm hn (by omega) hh, decide_eq_true ⟨h1, h2⟩]
  have ig := m_isGood E (d + 1) (f, t)
  dsimp only at ig
  rw [decide_eq_true a4] at ig
  refine Hr_of (z' := z1) (r := some (.int (nI n))) (fun K => ?_) ⟨rfl, e2, e3, e4, e5, e6, by rw [e3.2 8 (by decide) (by decide) (by decide) (by decide)]; exact a4⟩
  simp only [↓c_X9_readNumber, ↓e_X9_readNumber_0, ↓e_X9_readNumber_5, ↓e_X9_readNumber_9, ↓e_X9_readNumber_13, ↓e_X9_readNumber_21, ↓e_X9_readNumber_24, ↓e_X9_readNumber_28, ↓e_X9_readNumber_29, ↓e_X9_readNumber_32, ↓e_X9_readNumber_36, ↓e_X9_readNumber_41, ↓e_X9_readNumber_44, ↓e_X9_readNumber_48, g9 o9_129, v9 o9_129, q6, a3.2, m_in, inn, m_needs1, ig, kk, zps_s, zps_n, bI_t, i01, zk_i, zk_r, zk_n, ↓reduceIte]
theorem m_rnF (E : zE) (d : Nat) {f : Nat → Nat → Int32} {t : (Nat → Nat → Int64) × Nat} {i s e lo hb : Nat} {k v lv hv : Int32} (hT : Tok tx i s e k v) (he : s ≤ 241) (h : LD4 f s e k v) (hl : lo ≤ 100) (hh : hb ≤ 100) (el : lv = nI lo) (eh : hv = nI hb - 1) (hN : ¬ (k = 2 ∧ ∃ n, n ≤ 99 ∧ v = nI n ∧ lo ≤ n ∧ n < hb)) : ∃ x, ∀ K, Cl E (d + 2) 141 [.ref 129, .int lv, .int hv] (HP (f, t)) K = K (some (.int x)) (HP (set2 f 129 8 (nI s), t)) := by
  subst el
  subst eh
  obtain ⟨a1, a2, a3, a4⟩ := h
  have nd := m_needs0 E (d + 1) (f := f) (t := t) a4
  rw [a2] at nd
  obtain ⟨f2, hf2⟩ : ∃ g : Nat → Nat → Int32, g = set2 f 129 8 (nI s) := ⟨_, rfl⟩
  rw [← hf2] at nd ⊢
  have ig := m_isGood E (d + 1) (f2, t)
  dsimp only at ig
  have nz : ¬ f2 129 8 = -1 := by
    rw [hf2, set2_s]
    intro h
    exact (nI_nm (c := s) (by omega)).mp h
  rw [decide_eq_false nz] at ig
  by_cases q : f 129 6 = 2
  · have q' : (f 129 6 = 2) = True := eq_true q
    have inn : inL (f 129 7).toInt64 (nI lo).toInt64 (nI hb - 1).toInt64 = false := by
      rcases a3 with ⟨b1, b2⟩ | ⟨-, -, b3⟩
      · have k2 : k = 2 := b1.symm.trans q
        subst k2
        obtain ⟨n, n1, n2⟩ := tok_v hT
        rw [b2 rfl, n2, in_nm n1 hl hh]
        exact decide_eq_false (fun g => hN ⟨rfl, n, n1, n2, g.1, g.2⟩)
      · rw [b3, in_999 hh]
    exact ⟨f2 129 7, fun K => by simp only [↓c_X9_readNumber, ↓e_X9_readNumber_0, ↓e_X9_readNumber_5, ↓e_X9_readNumber_9, ↓e_X9_readNumber_13, ↓e_X9_readNumber_21, ↓e_X9_readNumber_24, ↓e_X9_readNumber_28, ↓e_X9_readNumber_29, ↓e_X9_readNumber_32, ↓e_X9_readNumber_36, ↓e_X9_readNumber_41, ↓e_X9_readNumber_44, ↓e_X9_readNumber_48, g9 o9_129, v9 o9_129, q', m_in, inn, nd, ig, zps_s, zps_n, bI_f, zk_i, zk_r, zk_n, ↓reduceIte]⟩
  · exact ⟨f2 129 7, fun K => by simp only [↓c_X9_readNumber, ↓e_X9_readNumber_0, ↓e_X9_readNumber_5, ↓e_X9_readNumber_9, ↓e_X9_readNumber_13, ↓e_X9_readNumber_21, ↓e_X9_readNumber_24, ↓e_X9_readNumber_28, ↓e_X9_readNumber_29, ↓e_X9_readNumber_32, ↓e_X9_readNumber_36, ↓e_X9_readNumber_41, ↓e_X9_readNumber_44, ↓e_X9_readNumber_48, g9 o9_129, v9 o9_129, q, nd, ig, zps_s, zps_n, bI_f, zk_i, zk_r, zk_n, ↓reduceIte]⟩
end F5
