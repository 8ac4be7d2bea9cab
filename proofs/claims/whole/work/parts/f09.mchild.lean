/-! READ: children, in the reference -/
section F9
variable {tx : Nat → Int32} {nl : Nat}
theorem n105' : (105 : Int32) = nI 105 := by decide
theorem m_ch96 (E : zE) (d : Nat) (f : Nat → Nat → Int32) (t : (Nat → Nat → Int64) × Nat) (y : Option Value) (Q : Option Value → zH → Prop) : Ev E (d + 3) zm_X9_readChild 96 [some (.ref 129), y] [] (HP (f, t)) Q = Q none (HP (set2 f 133 105 (f 133 105 + 1), t)) := by
  have r := ri_k j133 (show 105 < 110 by decide) (by decide) E (f, t)
  have w := wi_k j133 (show 105 < 110 by decide) (by decide) (f, t) (f 133 105 + 1)
  dsimp only at r w
  rw [e_X9_readChild_96]
  simp only [↓e_X9_readChild_5, ↓e_X9_readChild_8, ↓e_X9_readChild_13, ↓e_X9_readChild_17, ↓e_X9_readChild_18, ↓e_X9_readChild_21, ↓e_X9_readChild_25, ↓e_X9_readChild_28, ↓e_X9_readChild_32, ↓e_X9_readChild_39, ↓e_X9_readChild_43, ↓e_X9_readChild_46, ↓e_X9_readChild_50, ↓e_X9_readChild_57, ↓e_X9_readChild_60, ↓e_X9_readChild_69, ↓e_X9_readChild_73, ↓e_X9_readChild_74, ↓e_X9_readChild_79, ↓e_X9_readChild_84, ↓e_X9_readChild_86, ↓e_X9_readChild_89, ↓e_X9_readChild_90, ↓e_X9_readChild_100, ↓e_X9_readChild_104, ↓e_X9_readChild_107, g9 o9_129, Nat.reduceAdd, n105', r, w, zk_i, zk_r, zk_n]
def bLo (k : Nat) : Nat := if k = 0 then 1 else 0
def bHi (k : Nat) : Nat := if k = 4 then 20 else 10
theorem m_ch34 (E : zE) (d : Nat) {f : Nat → Nat → Int32} {t : (Nat → Nat → Int64) × Nat} (h8 : f 129 8 = -1) {nc k : Nat} (h105 : f 133 105 = nI nc) (hk : k < 5) (Q : Option Value → zH → Prop) : Ev E (d + 3) zm_X9_readChild 34 [some (.ref 129), some (.int (nI k))] [] (HP (f, t)) Q = Cl E (d + 2) 141 [.ref 129, .int (nI (bLo k)), .int (nI (bHi k) - 1)] (HP (f, t)) (fun r h1 => Ev E (d + 3) zm_X9_readChild 89 [some (.ref 129), some (.int (nI k))] (zps r [.int (nI (36 + 5 * nc + k)), .ref 133]) h1 Q) := by
  have r := ri_k j133 (show 105 < 110 by decide) (by decide) E (f, t)
  have g := m_isGood E (d + 2) (f, t)
  dsimp only at g
  rw [decide_eq_true h8] at g
  have ix : (36 : Int32) + 5 * nI nc + nI k = nI (36 + 5 * nc + k) := by rw [show (36 : Int32) = nI 36 from by decide, show (5 : Int32) = nI 5 from by decide, nI_mul, nI_add, nI_add]
  have c5 : (nI k < 5) = True := eq_true (by rw [show (5 : Int32) = nI 5 from by decide, nI_lt_iff (by omega) (by decide)]; exact hk)
  by_cases q0 : k = 0
  · have c0 : (nI k = 0) = True := eq_true (by rw [q0]; rfl)
    have c4 : (nI k = 4) = False := eq_false (by rw [q0]; decide)
    have e1 : nI (bLo k) = 1 := by rw [q0]; decide
    have e2 : nI (bHi k) - 1 = 9 := by rw [q0]; decide
    rw [e1, e2, e_X9_readChild_34]
    simp only [↓e_X9_readChild_5, ↓e_X9_readChild_8, ↓e_X9_readChild_13, ↓e_X9_readChild_17, ↓e_X9_readChild_18, ↓e_X9_readChild_21, ↓e_X9_readChild_25, ↓e_X9_readChild_28, ↓e_X9_readChild_32, ↓e_X9_readChild_39, ↓e_X9_readChild_43, ↓e_X9_readChild_46, ↓e_X9_readChild_50, ↓e_X9_readChild_57, ↓e_X9_readChild_60, ↓e_X9_readChild_69, ↓e_X9_readChild_73, ↓e_X9_readChild_74, ↓e_X9_readChild_79, ↓e_X9_readChild_84, ↓e_X9_readChild_86, ↓e_X9_readChild_90, ↓e_X9_readChild_96, ↓e_X9_readChild_100, ↓e_X9_readChild_104, ↓e_X9_readChild_107, g9 o9_129, v9 o9_129, Nat.reduceAdd, c5, g, n105', r, h105, ix, c0, c4, zps_s, bI_t, i01, zk_i, zk_r, zk_n, ↓reduceIte]
  · have c0 : (nI k = 0) = False := eq_false (by rw [show (0 : Int32) = nI 0 from by decide, nI_eq (by omega) (by decide)]; exact q0)
    have e1 : nI (bLo k) = 0 := by unfold bLo; rw [if_neg q0]; rfl
    by_cases q4 : k = 4
    · have c4 : (nI k = 4) = True := eq_true (by rw [q4]; rfl)
      have e2 : nI (bHi k) - 1 = 19 := by rw [q4]; decide
      rw [e1, e2, e_X9_readChild_34]
      simp only [↓e_X9_readChild_5, ↓e_X9_readChild_8, ↓e_X9_readChild_13, ↓e_X9_readChild_17, ↓e_X9_readChild_18, ↓e_X9_readChild_21, ↓e_X9_readChild_25, ↓e_X9_readChild_28, ↓e_X9_readChild_32, ↓e_X9_readChild_39, ↓e_X9_readChild_43, ↓e_X9_readChild_46, ↓e_X9_readChild_50, ↓e_X9_readChild_57, ↓e_X9_readChild_60, ↓e_X9_readChild_69, ↓e_X9_readChild_73, ↓e_X9_readChild_74, ↓e_X9_readChild_79, ↓e_X9_readChild_84, ↓e_X9_readChild_86, ↓e_X9_readChild_90, ↓e_X9_readChild_96, ↓e_X9_readChild_100, ↓e_X9_readChild_104, ↓e_X9_readChild_107, g9 o9_129, v9 o9_129, Nat.reduceAdd, c5, g, n105', r, h105, ix, c0, c4, zps_s, bI_t, i01, zk_i, zk_r, zk_n, ↓reduceIte]
    · have c4 : (nI k = 4) = False := eq_false (by rw [show (4 : Int32) = nI 4 from by decide, nI_eq (by omega) (by decide)]; exact q4)
      have e2 : nI (bHi k) - 1 = 9 := by unfold bHi; rw [if_neg q4]; decide
      rw [e1, e2, e_X9_readChild_34]
      simp only [↓e_X9_readChild_5, ↓e_X9_readChild_8, ↓e_X9_readChild_13, ↓e_X9_readChild_17, ↓e_X9_readChild_18, ↓e_X9_readChild_21, ↓e_X9_readChild_25, ↓e_X9_readChild_28, ↓e_X9_readChild_32, ↓e_X9_readChild_39, ↓e_X9_readChild_43, ↓e_X9_readChild_46, ↓e_X9_readChild_50, ↓e_X9_readChild_57, ↓e_X9_readChild_60, ↓e_X9_readChild_69, ↓e_X9_readChild_73, ↓e_X9_readChild_74, ↓e_X9_readChild_79, ↓e_X9_readChild_84, ↓e_X9_readChild_86, ↓e_X9_readChild_90, ↓e_X9_readChild_96, ↓e_X9_readChild_100, ↓e_X9_readChild_104, ↓e_X9_readChild_107, g9 o9_129, v9 o9_129, Nat.reduceAdd, c5, g, n105', r, h105, ix, c0, c4, zps_s, bI_t, i01, zk_i, zk_r, zk_n, ↓reduceIte]
theorem b_100 (k : Nat) : bLo k ≤ 100 ∧ bHi k ≤ 100 := by
  unfold bLo bHi
  constructor
  · split <;> omega
  · split <;> omega
theorem m_chG (E : zE) (d : Nat) {f : Nat → Nat → Int32} {t : (Nat → Nat → Int64) × Nat} (hx : RM f tx nl) {D : Nat → Int32} (hD : D133 f D) {nc k i n e : Nat} (h105 : D 105 = nI nc) (hnc : nc < 6) (hk : k < 5) (hi : i ≤ nl) (hL : LT tx f i) (h8 : f 129 8 = -1) (hN : Num tx i (bLo k) (bHi k) n e) : ∃ f', FrN f f' ∧ LT tx f' e ∧ f' 129 8 = -1 ∧ D133 f' (upd D (36 + 5 * nc + k) (nI n)) ∧ ∀ Q, Ev E (d + 3) zm_X9_readChild 34 [some (.ref 129), some (.int (nI k))] [] (HP (f, t)) Q = Ev E (d + 3) zm_X9_readChild 34 [some (.ref 129), some (.int (nI (k + 1)))] [] (HP (f', t)) Q := by
  obtain ⟨r2, z2, ⟨y1, y2, y3, y4, y5⟩, k2⟩ := Hr_use (m_rnLG E d (t := t) hx hi hL h8 hN (b_100 k).2 rfl rfl)
  subst y1
  obtain ⟨f2, tt⟩ := z2
  dsimp only at y2 y3 y4 y5
  subst y2
  obtain ⟨f3, hf3⟩ : ∃ g : Nat → Nat → Int32, g = set2 f2 133 (36 + 5 * nc + k) (nI n) := ⟨_, rfl⟩
  have w3 := wi_k j133 (show 36 + 5 * nc + k < 110 by omega) (by decide) (f2, tt) (nI n)
  dsimp only at w3
  rw [← hf3] at w3
  refine ⟨f3, FrN_t (FrN_m y3) (by rw [hf3]; exact FrN_3 _ _ _), LT_c (by rw [hf3, set2_a (by decide)]) y4, by rw [hf3, set2_a (by decide)]; exact y5, by rw [hf3]; exact D133_w (D133_c (y3.1 133 (by decide)) hD) _ _, fun Q => ?_⟩
  rw [m_ch34 E d h8 ((hD 105 (by decide)).trans h105) hk]
  simp only [↓e_X9_readChild_89, ↓e_X9_readChild_90, k2, w3, ix_1, zps_s, zk_i, zk_r, zk_n]
theorem m_chF (E : zE) (d : Nat) {f : Nat → Nat → Int32} {t : (Nat → Nat → Int64) × Nat} (hx : RM f tx nl) {D : Nat → Int32} (hD : D133 f D) {nc k i s : Nat} (h105 : D 105 = nI nc) (hnc : nc < 6) (hk : k < 5) (hi : i ≤ nl) (hL : LT tx f i) (h8 : f 129 8 = -1) (hN : NumF tx i (bLo k) (bHi k) s) : ∃ f', FrN f f' ∧ f' 129 8 = nI s ∧ ∀ Q, Ev E (d + 3) zm_X9_readChild 34 [some (.ref 129), some (.int (nI k))] [] (HP (f, t)) Q = Q none (HP (f', t)) := by
  have h240 := hx.2.1
  have hs := numF_nl hx.2.2.2 hi hN
  obtain ⟨x, k2⟩ := m_rnLF E d (t := t) hx hi hL h8 hN (b_100 k).1 (b_100 k).2 rfl rfl
  obtain ⟨f2, hf2⟩ : ∃ g : Nat → Nat → Int32, g = set2 f 129 8 (nI s) := ⟨_, rfl⟩
  rw [← hf2] at k2
  obtain ⟨f3, hf3⟩ : ∃ g : Nat → Nat → Int32, g = set2 f2 133 (36 + 5 * nc + k) x := ⟨_, rfl⟩
  have w3 := wi_k j133 (show 36 + 5 * nc + k < 110 by omega) (by decide) (f2, t) x
  dsimp only at w3
  rw [← hf3] at w3
  have e8 : f3 129 8 = nI s := by rw [hf3, set2_a (by decide), hf2, set2_s]
  have en := m_ch96 E d f3 t (some (.int (nI (k + 1))))
  obtain ⟨f', hf'⟩ : ∃ g : Nat → Nat → Int32, g = set2 f3 133 105 (f3 133 105 + 1) := ⟨_, rfl⟩
  rw [← hf'] at en
  have g := m_isGood E (d + 2) (f3, t)
  dsimp only at g
  rw [decide_eq_false (show ¬ f3 129 8 = -1 by rw [e8]; exact s_nm (by omega))] at g
  refine ⟨f', FrN_t (g := f2) (by rw [hf2]; exact FrN_8 _ _) (FrN_t (g := f3) (by rw [hf3]; exact FrN_3 _ _ _) (by rw [hf']; exact FrN_3 _ _ _)), by rw [hf', set2_a (by decide)]; exact e8, fun Q => ?_⟩
  rw [m_ch34 E d h8 ((hD 105 (by decide)).trans h105) hk]
  by_cases q : k + 1 < 5
  · have c5 : (nI (k + 1) < 5) = True := eq_true (by rw [show (5 : Int32) = nI 5 from by decide, nI_lt_iff (by omega) (by decide)]; exact q)
    simp only [↓e_X9_readChild_89, ↓e_X9_readChild_90, k2, w3, ix_1, zps_s, zk_i, zk_r, zk_n]
    rw [e_X9_readChild_34]
    simp only [↓e_X9_readChild_5, ↓e_X9_readChild_8, ↓e_X9_readChild_13, ↓e_X9_readChild_17, ↓e_X9_readChild_18, ↓e_X9_readChild_21, ↓e_X9_readChild_25, ↓e_X9_readChild_28, ↓e_X9_readChild_32, ↓e_X9_readChild_39, ↓e_X9_readChild_43, ↓e_X9_readChild_46, ↓e_X9_readChild_50, ↓e_X9_readChild_57, ↓e_X9_readChild_60, ↓e_X9_readChild_69, ↓e_X9_readChild_73, ↓e_X9_readChild_74, ↓e_X9_readChild_79, ↓e_X9_readChild_84, ↓e_X9_readChild_86, ↓e_X9_readChild_90, ↓e_X9_readChild_100, ↓e_X9_readChild_104, ↓e_X9_readChild_107, v9 o9_129, c5, g, en, zps_s, bI_f, zk_i, zk_r, zk_n, ↓reduceIte]
  · have c5 : (nI (k + 1) < 5) = False := eq_false (by rw [show (5 : Int32) = nI 5 from by decide, nI_lt_iff (by omega) (by decide)]; exact q)
    simp only [↓e_X9_readChild_89, ↓e_X9_readChild_90, k2, w3, ix_1, zps_s, zk_i, zk_r, zk_n]
    rw [e_X9_readChild_34]
    simp only [↓e_X9_readChild_5, ↓e_X9_readChild_8, ↓e_X9_readChild_13, ↓e_X9_readChild_17, ↓e_X9_readChild_18, ↓e_X9_readChild_21, ↓e_X9_readChild_25, ↓e_X9_readChild_28, ↓e_X9_readChild_32, ↓e_X9_readChild_39, ↓e_X9_readChild_43, ↓e_X9_readChild_46, ↓e_X9_readChild_50, ↓e_X9_readChild_57, ↓e_X9_readChild_60, ↓e_X9_readChild_69, ↓e_X9_readChild_73, ↓e_X9_readChild_74, ↓e_X9_readChild_79, ↓e_X9_readChild_84, ↓e_X9_readChild_86, ↓e_X9_readChild_90, ↓e_X9_readChild_100, ↓e_X9_readChild_104, ↓e_X9_readChild_107, v9 o9_129, c5, en, zps_s, zk_i, zk_r, zk_n, ↓reduceIte]
theorem m_chIn (E : zE) (d : Nat) {f : Nat → Nat → Int32} {t : (Nat → Nat → Int64) × Nat} (hx : RM f tx nl) {D : Nat → Int32} (hD : D133 f D) {nc : Nat} (h105 : D 105 = nI nc) (hnc : nc < 6) {i s e : Nat} {v : Int32} (hi : i ≤ nl) (hL : LT tx f i) (hT : Tok tx i s e 1 v) (h8 : f 129 8 = -1) : ∃ f1, FrN f f1 ∧ LT tx f1 e ∧ f1 129 8 = -1 ∧ D133 f1 D ∧ ∀ K, Cl E (d + 3) 143 [.ref 129] (HP (f, t)) K = Ev E (d + 3) zm_X9_readChild 34 [some (.ref 129), some (.int (nI 0))] [] (HP (f1, t)) K := by
  have l0 := (tok_nl hx.2.2.2 hi hT).2
  have r0 := ri_k j133 (show 105 < 110 by decide) (by decide) E (f, t)
  have v0 : f 133 105 = nI nc := (hD 105 (by decide)).trans h105
  have l6 : (nI nc < 6) = True := eq_true (by rw [show (6 : Int32) = nI 6 from by decide, nI_lt_iff (by omega) (by decide)]; exact hnc)
  have g0 := m_isGood E (d + 2) (f, t)
  dsimp only at g0
  rw [decide_eq_true h8] at g0
  obtain ⟨r1, z1, ⟨x1, x2, x3, x4⟩, k1⟩ := Hr_use (m_tokL E (d + 1) (t := t) hx l0 (LT_t hL hT).1)
  subst x1
  obtain ⟨f1, tt⟩ := z1
  dsimp only at x2 x3 x4
  subst x2
  refine ⟨f1, FrN_m x3, x4, by rw [x3.2 8 (by decide) (by decide) (by decide) (by decide)]; exact h8, D133_c (x3.1 133 (by decide)) hD, fun K => ?_⟩
  rw [nI_0]
  simp only [↓c_X9_readChild, ↓e_X9_readChild_0, ↓e_X9_readChild_5, ↓e_X9_readChild_8, ↓e_X9_readChild_13, ↓e_X9_readChild_17, ↓e_X9_readChild_18, ↓e_X9_readChild_21, ↓e_X9_readChild_25, ↓e_X9_readChild_28, ↓e_X9_readChild_32, ↓e_X9_readChild_39, ↓e_X9_readChild_43, ↓e_X9_readChild_46, ↓e_X9_readChild_50, ↓e_X9_readChild_57, ↓e_X9_readChild_60, ↓e_X9_readChild_69, ↓e_X9_readChild_73, ↓e_X9_readChild_74, ↓e_X9_readChild_79, ↓e_X9_readChild_84, ↓e_X9_readChild_86, ↓e_X9_readChild_89, ↓e_X9_readChild_90, ↓e_X9_readChild_96, ↓e_X9_readChild_100, ↓e_X9_readChild_104, ↓e_X9_readChild_107, g9 o9_129, v9 o9_129, Nat.reduceAdd, n105', r0, v0, l6, m_needs1, g0, k1, zps_s, zps_n, bI_t, i01, zk_i, zk_r, zk_n, ↓reduceIte]
theorem m_child6 (E : zE) (d : Nat) {f : Nat → Nat → Int32} {t : (Nat → Nat → Int64) × Nat} {D : Nat → Int32} (hD : D133 f D) (h105 : D 105 = nI 6) {s : Nat} (hs : s ≤ 240) (h5 : f 129 5 = nI s) (h8 : f 129 8 = -1) : Hr E (d + 3) 143 [.ref 129] (f, t) (BadI f t s) := by
  have r0 := ri_k j133 (show 105 < 110 by decide) (by decide) E (f, t)
  have v0 : f 133 105 = nI 6 := (hD 105 (by decide)).trans h105
  have l6 : (nI 6 < 6) = False := by decide
  have nd := m_needs0 E (d + 2) (f := f) (t := t) h8
  rw [h5] at nd
  obtain ⟨f1, hf1⟩ : ∃ g : Nat → Nat → Int32, g = set2 f 129 8 (nI s) := ⟨_, rfl⟩
  rw [← hf1] at nd
  have e8 : f1 129 8 = nI s := by rw [hf1, set2_s]
  have g0 := m_isGood E (d + 2) (f1, t)
  dsimp only at g0
  rw [decide_eq_false (show ¬ f1 129 8 = -1 by rw [e8]; exact s_nm hs)] at g0
  refine Hr_of (z' := (f1, t)) (r := none) (fun K => ?_) ⟨rfl, rfl, by rw [hf1]; exact FrN_8 _ _, e8⟩
  simp only [↓c_X9_readChild, ↓e_X9_readChild_0, ↓e_X9_readChild_5, ↓e_X9_readChild_8, ↓e_X9_readChild_13, ↓e_X9_readChild_17, ↓e_X9_readChild_18, ↓e_X9_readChild_21, ↓e_X9_readChild_25, ↓e_X9_readChild_28, ↓e_X9_readChild_32, ↓e_X9_readChild_39, ↓e_X9_readChild_43, ↓e_X9_readChild_46, ↓e_X9_readChild_50, ↓e_X9_readChild_57, ↓e_X9_readChild_60, ↓e_X9_readChild_69, ↓e_X9_readChild_73, ↓e_X9_readChild_74, ↓e_X9_readChild_79, ↓e_X9_readChild_84, ↓e_X9_readChild_86, ↓e_X9_readChild_89, ↓e_X9_readChild_90, ↓e_X9_readChild_96, ↓e_X9_readChild_100, ↓e_X9_readChild_104, ↓e_X9_readChild_107, g9 o9_129, v9 o9_129, Nat.reduceAdd, n105', r0, v0, l6, nd, g0, zps_s, zps_n, bI_f, zk_i, zk_r, zk_n, ↓reduceIte]
theorem m_childLG (E : zE) (d : Nat) {f : Nat → Nat → Int32} {t : (Nat → Nat → Int64) × Nat} (hx : RM f tx nl) {D : Nat → Int32} (hD : D133 f D) {nc : Nat} (h105 : D 105 = nI nc) (hnc : nc < 6) {i s e : Nat} {v : Int32} (hi : i ≤ nl) (hL : LT tx f i) (hT : Tok tx i s e 1 v) (h8 : f 129 8 = -1) {a b c g o e1 e2 e3 e4 e5 : Nat} (n1 : Num tx e 1 10 a e1) (n2 : Num tx e1 0 10 b e2) (n3 : Num tx e2 0 10 c e3) (n4 : Num tx e3 0 10 g e4) (n5 : Num tx e4 0 20 o e5) : Hr E (d + 3) 143 [.ref 129] (f, t) (GoodI tx f t e5 (dChild D nc a b c g o)) := by
  have l0 := (tok_nl hx.2.2.2 hi hT).2
  have l1 := num_nl hx.2.2.2 l0 n1
  have l2 := num_nl hx.2.2.2 l1 n2
  have l3 := num_nl hx.2.2.2 l2 n3
  have l4 := num_nl hx.2.2.2 l3 n4
  obtain ⟨f1, a1, a2, a3, a4, k1⟩ := m_chIn E d (t := t) hx hD h105 hnc hi hL hT h8
  obtain ⟨f2, b1, b2, b3, b4, k2⟩ := m_chG E d (t := t) (FrN_x a1 hx) a4 (k := 0) h105 hnc (by decide) l0 a2 a3 n1
  have F2 := FrN_t a1 b1
  obtain ⟨f3, c1, c2, c3, c4, k3⟩ := m_chG E d (t := t) (FrN_x F2 hx) b4 (k := 1) (by rw [uN (by omega)]; exact h105) hnc (by decide) l1 b2 b3 n2
  have F3 := FrN_t F2 c1
  obtain ⟨f4, d1, d2, d3, d4, k4⟩ := m_chG E d (t := t) (FrN_x F3 hx) c4 (k := 2) (by rw [uN (by omega), uN (by omega)]; exact h105) hnc (by decide) l2 c2 c3 n3
  have F4 := FrN_t F3 d1
  obtain ⟨f5, e1', e2', e3', e4', k5⟩ := m_chG E d (t := t) (FrN_x F4 hx) d4 (k := 3) (by rw [uN (by omega), uN (by omega), uN (by omega)]; exact h105) hnc (by decide) l3 d2 d3 n4
  have F5 := FrN_t F4 e1'
  obtain ⟨f6, g1', g2', g3', g4', k6⟩ := m_chG E d (t := t) (FrN_x F5 hx) e4' (k := 4) (by rw [uN (by omega), uN (by omega), uN (by omega), uN (by omega)]; exact h105) hnc (by decide) l4 e2' e3' n5
  have F6 := FrN_t F5 g1'
  have en := m_ch96 E d f6 t (some (.int (nI (4 + 1))))
  have v6 : f6 133 105 = nI nc := by rw [g4' 105 (by decide), uN (by omega), uN (by omega), uN (by omega), uN (by omega), uN (by omega)]; exact h105
  rw [v6, ix_1] at en
  obtain ⟨f', hf'⟩ : ∃ g : Nat → Nat → Int32, g = set2 f6 133 105 (nI (nc + 1)) := ⟨_, rfl⟩
  rw [← hf'] at en
  have c5 : (nI (4 + 1) < 5) = False := by decide
  refine Hr_of (z' := (f', t)) (r := none) (fun K => ?_) ⟨rfl, rfl, FrN_t F6 (by rw [hf']; exact FrN_3 _ _ _), LT_c (by show f' 129 = f6 129; rw [hf', set2_a (by decide)]) g2', by show f' 129 8 = -1; rw [hf', set2_a (by decide)]; exact g3', by show D133 f' _; rw [hf']; exact D133_w g4' _ _⟩
  rw [k1, k2, k3, k4, k5, k6, e_X9_readChild_34]
  simp only [c5, en, ↓reduceIte]
theorem m_childLF (E : zE) (d : Nat) {f : Nat → Nat → Int32} {t : (Nat → Nat → Int64) × Nat} (hx : RM f tx nl) {D : Nat → Int32} (hD : D133 f D) {nc : Nat} (h105 : D 105 = nI nc) (hnc : nc < 6) {i s e s' : Nat} {v : Int32} (hi : i ≤ nl) (hL : LT tx f i) (hT : Tok tx i s e 1 v) (h8 : f 129 8 = -1) (hF : NumsF tx [(1, 10), (0, 10), (0, 10), (0, 10), (0, 20)] e s') : Hr E (d + 3) 143 [.ref 129] (f, t) (fun r z' => BadI f t s' r z' ∨ ∃ j D', GoodI tx f t j D' r z' ∧ j ≤ nl ∧ StpF tx j s') := by
  have l0 := (tok_nl hx.2.2.2 hi hT).2
  obtain ⟨f1, a1, a2, a3, a4, k1⟩ := m_chIn E d (t := t) hx hD h105 hnc hi hL hT h8
  rcases hF with hF | ⟨a, e1, n1, hF⟩
  · obtain ⟨f', x1, x2, kk⟩ := m_chF E d (t := t) (FrN_x a1 hx) a4 (k := 0) h105 hnc (by decide) l0 a2 a3 hF
    exact Hr_of (z' := (f', t)) (r := none) (fun K => by rw [k1, kk]) (Or.inl ⟨rfl, rfl, FrN_t a1 x1, x2⟩)
  · have l1 := num_nl hx.2.2.2 l0 n1
    obtain ⟨f2, b1, b2, b3, b4, k2⟩ := m_chG E d (t := t) (FrN_x a1 hx) a4 (k := 0) h105 hnc (by decide) l0 a2 a3 n1
    have F2 := FrN_t a1 b1
    rcases hF with hF | ⟨b, e2, n2, hF⟩
    · obtain ⟨f', x1, x2, kk⟩ := m_chF E d (t := t) (FrN_x F2 hx) b4 (k := 1) (by rw [uN (by omega)]; exact h105) hnc (by decide) l1 b2 b3 hF
      exact Hr_of (z' := (f', t)) (r := none) (fun K => by rw [k1, k2, kk]) (Or.inl ⟨rfl, rfl, FrN_t F2 x1, x2⟩)
    · have l2 := num_nl hx.2.2.2 l1 n2
      obtain ⟨f3, c1, c2, c3, c4, k3⟩ := m_chG E d (t := t) (FrN_x F2 hx) b4 (k := 1) (by rw [uN (by omega)]; exact h105) hnc (by decide) l1 b2 b3 n2
      have F3 := FrN_t F2 c1
      rcases hF with hF | ⟨c, e3, n3, hF⟩
      · obtain ⟨f', x1, x2, kk⟩ := m_chF E d (t := t) (FrN_x F3 hx) c4 (k := 2) (by rw [uN (by omega), uN (by omega)]; exact h105) hnc (by decide) l2 c2 c3 hF
        exact Hr_of (z' := (f', t)) (r := none) (fun K => by rw [k1, k2, k3, kk]) (Or.inl ⟨rfl, rfl, FrN_t F3 x1, x2⟩)
      · have l3 := num_nl hx.2.2.2 l2 n3
        obtain ⟨f4, d1, d2, d3, d4, k4⟩ := m_chG E d (t := t) (FrN_x F3 hx) c4 (k := 2) (by rw [uN (by omega), uN (by omega)]; exact h105) hnc (by decide) l2 c2 c3 n3
        have F4 := FrN_t F3 d1
        rcases hF with hF | ⟨g, e4, n4, hF⟩
        · obtain ⟨f', x1, x2, kk⟩ := m_chF E d (t := t) (FrN_x F4 hx) d4 (k := 3) (by rw [uN (by omega), uN (by omega), uN (by omega)]; exact h105) hnc (by decide) l3 d2 d3 hF
          exact Hr_of (z' := (f', t)) (r := none) (fun K => by rw [k1, k2, k3, k4, kk]) (Or.inl ⟨rfl, rfl, FrN_t F4 x1, x2⟩)
        · have l4 := num_nl hx.2.2.2 l3 n4
          obtain ⟨f5, e1', e2', e3', e4', k5⟩ := m_chG E d (t := t) (FrN_x F4 hx) d4 (k := 3) (by rw [uN (by omega), uN (by omega), uN (by omega)]; exact h105) hnc (by decide) l3 d2 d3 n4
          have F5 := FrN_t F4 e1'
          rcases hF with hF | ⟨o, e5, n5, hF⟩
          · obtain ⟨f', x1, x2, kk⟩ := m_chF E d (t := t) (FrN_x F5 hx) e4' (k := 4) (by rw [uN (by omega), uN (by omega), uN (by omega), uN (by omega)]; exact h105) hnc (by decide) l4 e2' e3' hF
            exact Hr_of (z' := (f', t)) (r := none) (fun K => by rw [k1, k2, k3, k4, k5, kk]) (Or.inl ⟨rfl, rfl, FrN_t F5 x1, x2⟩)
          · have l5 := num_nl hx.2.2.2 l4 n5
            obtain ⟨r, z, hz, kk⟩ := Hr_use (m_childLG E d (t := t) hx hD h105 hnc hi hL hT h8 n1 n2 n3 n4 n5)
            exact Hr_of kk (Or.inr ⟨e5, _, hz, l5, hF⟩)
end F9
