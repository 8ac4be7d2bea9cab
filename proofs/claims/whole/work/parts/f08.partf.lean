/-! READ: parts that fail, in the reference -/
section F8
variable {tx : Nat → Int32} {nl : Nat}
theorem ix_p (np : Nat) : (0 : Int32) + 3 * nI np = nI (3 * np) := by rw [show (0 : Int32) = nI 0 from by decide, show (3 : Int32) = nI 3 from by decide, nI_mul, nI_add, Nat.zero_add]
theorem ix_1 (n : Nat) : nI n + 1 = nI (n + 1) := by rw [show (1 : Int32) = nI 1 from by decide, nI_add]
theorem ix_2 (n : Nat) : nI n + 2 = nI (n + 2) := by rw [show (2 : Int32) = nI 2 from by decide, nI_add]
theorem m_partE (E : zE) (d : Nat) (f : Nat → Nat → Int32) (t : (Nat → Nat → Int64) × Nat) (p : Int32) (Q : Option Value → zH → Prop) : Ev E (d + 3) zm_X9_readPart 109 [some (.ref 129), some (.int p)] [] (HP (f, t)) Q = Q none (HP (set2 f 133 104 (f 133 104 + 1), t)) := by
  have r := ri_k j133 (show 104 < 110 by decide) (by decide) E (f, t)
  have w := wi_k j133 (show 104 < 110 by decide) (by decide) (f, t) (f 133 104 + 1)
  dsimp only at r w
  rw [e_X9_readPart_109]
  simp only [↓e_X9_readPart_5, ↓e_X9_readPart_8, ↓e_X9_readPart_13, ↓e_X9_readPart_17, ↓e_X9_readPart_18, ↓e_X9_readPart_21, ↓e_X9_readPart_25, ↓e_X9_readPart_28, ↓e_X9_readPart_32, ↓e_X9_readPart_38, ↓e_X9_readPart_41, ↓e_X9_readPart_48, ↓e_X9_readPart_56, ↓e_X9_readPart_57, ↓e_X9_readPart_61, ↓e_X9_readPart_68, ↓e_X9_readPart_71, ↓e_X9_readPart_78, ↓e_X9_readPart_81, ↓e_X9_readPart_82, ↓e_X9_readPart_83, ↓e_X9_readPart_87, ↓e_X9_readPart_94, ↓e_X9_readPart_97, ↓e_X9_readPart_104, ↓e_X9_readPart_107, ↓e_X9_readPart_108, ↓e_X9_readPart_113, ↓e_X9_readPart_117, ↓e_X9_readPart_120, g9 o9_129, Nat.reduceAdd, n104, r, w, zk_i, zk_r, zk_n]
theorem m_part83 (E : zE) (d : Nat) {f : Nat → Nat → Int32} {t : (Nat → Nat → Int64) × Nat} (hs : ¬ f 129 8 = -1) {np : Nat} (hnp : np < 6) : ∃ f', FrN f f' ∧ f' 129 = f 129 ∧ ∀ Q, Ev E (d + 3) zm_X9_readPart 83 [some (.ref 129), some (.int (nI (3 * np)))] [] (HP (f, t)) Q = Q none (HP (f', t)) := by
  obtain ⟨f1, hf1⟩ : ∃ g : Nat → Nat → Int32, g = set2 f 133 (3 * np + 2) 0 := ⟨_, rfl⟩
  have w := wi_k j133 (show 3 * np + 2 < 110 by omega) (by decide) (f, t) 0
  dsimp only at w
  rw [← hf1] at w
  have g := m_isGood E (d + 2) (f, t)
  dsimp only at g
  rw [decide_eq_false hs] at g
  have en := m_partE E d f1 t (nI (3 * np))
  refine ⟨set2 f1 133 104 (f1 133 104 + 1), FrN_t (g := f1) (by rw [hf1]; exact FrN_3 _ _ _) (FrN_3 _ _ _), by rw [set2_a (by decide), hf1, set2_a (by decide)], fun Q => ?_⟩
  rw [e_X9_readPart_83]
  simp only [↓e_X9_readPart_5, ↓e_X9_readPart_8, ↓e_X9_readPart_13, ↓e_X9_readPart_17, ↓e_X9_readPart_18, ↓e_X9_readPart_21, ↓e_X9_readPart_25, ↓e_X9_readPart_28, ↓e_X9_readPart_32, ↓e_X9_readPart_38, ↓e_X9_readPart_41, ↓e_X9_readPart_48, ↓e_X9_readPart_56, ↓e_X9_readPart_57, ↓e_X9_readPart_61, ↓e_X9_readPart_68, ↓e_X9_readPart_71, ↓e_X9_readPart_78, ↓e_X9_readPart_81, ↓e_X9_readPart_82, ↓e_X9_readPart_87, ↓e_X9_readPart_94, ↓e_X9_readPart_97, ↓e_X9_readPart_104, ↓e_X9_readPart_107, ↓e_X9_readPart_108, ↓e_X9_readPart_113, ↓e_X9_readPart_117, ↓e_X9_readPart_120, g9 o9_129, v9 o9_129, Nat.reduceAdd, g, ix_2, w, en, zps_s, bI_f, zk_i, zk_r, zk_n, ↓reduceIte]
theorem m_part57 (E : zE) (d : Nat) {f : Nat → Nat → Int32} {t : (Nat → Nat → Int64) × Nat} (hs : ¬ f 129 8 = -1) {np : Nat} (hnp : np < 6) : ∃ f', FrN f f' ∧ f' 129 = f 129 ∧ ∀ Q, Ev E (d + 3) zm_X9_readPart 57 [some (.ref 129), some (.int (nI (3 * np)))] [] (HP (f, t)) Q = Q none (HP (f', t)) := by
  obtain ⟨f1, hf1⟩ : ∃ g : Nat → Nat → Int32, g = set2 f 133 (3 * np + 1) 0 := ⟨_, rfl⟩
  have w := wi_k j133 (show 3 * np + 1 < 110 by omega) (by decide) (f, t) 0
  dsimp only at w
  rw [← hf1] at w
  have g := m_isGood E (d + 2) (f, t)
  dsimp only at g
  rw [decide_eq_false hs] at g
  have e1 : f1 129 = f 129 := by rw [hf1, set2_a (by decide)]
  obtain ⟨f', a, b, en⟩ := m_part83 E d (f := f1) (t := t) (by rw [e1]; exact hs) hnp
  refine ⟨f', FrN_t (g := f1) (by rw [hf1]; exact FrN_3 _ _ _) a, by rw [b, e1], fun Q => ?_⟩
  rw [e_X9_readPart_57]
  simp only [↓e_X9_readPart_5, ↓e_X9_readPart_8, ↓e_X9_readPart_13, ↓e_X9_readPart_17, ↓e_X9_readPart_18, ↓e_X9_readPart_21, ↓e_X9_readPart_25, ↓e_X9_readPart_28, ↓e_X9_readPart_32, ↓e_X9_readPart_38, ↓e_X9_readPart_41, ↓e_X9_readPart_48, ↓e_X9_readPart_56, ↓e_X9_readPart_61, ↓e_X9_readPart_68, ↓e_X9_readPart_71, ↓e_X9_readPart_78, ↓e_X9_readPart_81, ↓e_X9_readPart_82, ↓e_X9_readPart_87, ↓e_X9_readPart_94, ↓e_X9_readPart_97, ↓e_X9_readPart_104, ↓e_X9_readPart_107, ↓e_X9_readPart_108, ↓e_X9_readPart_113, ↓e_X9_readPart_117, ↓e_X9_readPart_120, g9 o9_129, v9 o9_129, Nat.reduceAdd, g, ix_1, w, en, zps_s, bI_f, zk_i, zk_r, zk_n, ↓reduceIte]
set_option maxRecDepth 100000 in
theorem m_partLF (E : zE) (d : Nat) {f : Nat → Nat → Int32} {t : (Nat → Nat → Int64) × Nat} (hx : RM f tx nl) {D : Nat → Int32} (hD : D133 f D) {np : Nat} (h104 : D 104 = nI np) (hnp : np < 6) {i s e s' : Nat} {v : Int32} (hi : i ≤ nl) (hL : LT tx f i) (hT : Tok tx i s e 1 v) (h8 : f 129 8 = -1) (hF : NumsF tx [(0, 7), (0, 61), (0, 10)] e s') : Hr E (d + 3) 142 [.ref 129] (f, t) (fun r z' => BadI f t s' r z' ∨ ∃ j D', GoodI tx f t j D' r z' ∧ j ≤ nl ∧ StpF tx j s') := by
  have h240 := hx.2.1
  have l0 := (tok_nl hx.2.2.2 hi hT).2
  have r0 := ri_k j133 (show 104 < 110 by decide) (by decide) E (f, t)
  have v0 : f 133 104 = nI np := (hD 104 (by decide)).trans h104
  have l6 : (nI np < 6) = True := eq_true (by rw [show (6 : Int32) = nI 6 from by decide, nI_lt_iff (by omega) (by decide)]; exact hnp)
  have g0 := m_isGood E (d + 2) (f, t)
  dsimp only at g0
  rw [decide_eq_true h8] at g0
  obtain ⟨r1, z1, ⟨x1, x2, x3, x4⟩, k1⟩ := Hr_use (m_tokL E (d + 1) (t := t) hx l0 (LT_t hL hT).1)
  subst x1
  obtain ⟨f1, tt⟩ := z1
  dsimp only at x2 x3 x4
  subst x2
  have n1 : FrN f f1 := FrN_m x3
  have h81 : f1 129 8 = -1 := by rw [x3.2 8 (by decide) (by decide) (by decide) (by decide)]; exact h8
  have D1 : D133 f1 D := D133_c (x3.1 133 (by decide)) hD
  have r1' := ri_k j133 (show 104 < 110 by decide) (by decide) E (f1, tt)
  have v1' : f1 133 104 = nI np := (D1 104 (by decide)).trans h104
  have hx1 := FrN_x n1 hx
  rcases hF with hF | ⟨a, e1, N1, hF⟩
  · have hs' := numF_nl hx.2.2.2 l0 hF
    obtain ⟨x, k2⟩ := m_rnLF E d (t := tt) hx1 l0 x4 h81 hF (by decide) (by decide) (lv := 0) (hv := 6) (by decide) (by decide)
    obtain ⟨f2, hf2⟩ : ∃ g : Nat → Nat → Int32, g = set2 f1 129 8 (nI s') := ⟨_, rfl⟩
    rw [← hf2] at k2
    obtain ⟨f3, hf3⟩ : ∃ g : Nat → Nat → Int32, g = set2 f2 133 (3 * np) x := ⟨_, rfl⟩
    have w3 := wi_k j133 (show 3 * np < 110 by omega) (by decide) (f2, tt) x
    dsimp only at w3
    rw [← hf3] at w3
    have e8 : f3 129 8 = nI s' := by rw [hf3, set2_a (by decide), hf2, set2_s]
    obtain ⟨f', a1, a2, en⟩ := m_part57 E d (f := f3) (t := tt) (by rw [e8]; exact s_nm (by omega)) hnp
    refine Hr_of (z' := (f', tt)) (r := none) (fun K => ?_) (Or.inl ⟨rfl, rfl, FrN_t n1 (FrN_t (g := f2) (by rw [hf2]; exact FrN_8 _ _) (FrN_t (g := f3) (by rw [hf3]; exact FrN_3 _ _ _) a1)), by show f' 129 8 = _; rw [a2]; exact e8⟩)
    simp only [↓c_X9_readPart, ↓e_X9_readPart_0, ↓e_X9_readPart_5, ↓e_X9_readPart_8, ↓e_X9_readPart_13, ↓e_X9_readPart_17, ↓e_X9_readPart_18, ↓e_X9_readPart_21, ↓e_X9_readPart_25, ↓e_X9_readPart_28, ↓e_X9_readPart_32, ↓e_X9_readPart_38, ↓e_X9_readPart_41, ↓e_X9_readPart_48, ↓e_X9_readPart_56, ↓e_X9_readPart_61, ↓e_X9_readPart_68, ↓e_X9_readPart_71, ↓e_X9_readPart_78, ↓e_X9_readPart_81, ↓e_X9_readPart_82, ↓e_X9_readPart_87, ↓e_X9_readPart_94, ↓e_X9_readPart_97, ↓e_X9_readPart_104, ↓e_X9_readPart_107, ↓e_X9_readPart_108, ↓e_X9_readPart_113, ↓e_X9_readPart_117, ↓e_X9_readPart_120, g9 o9_129, v9 o9_129, Nat.reduceAdd, n104, r0, v0, l6, m_needs1, g0, k1, r1', v1', ix_p, k2, w3, en, zps_s, zps_n, bI_t, i01, zk_i, zk_r, zk_n, ↓reduceIte]
  · have l1 := num_nl hx.2.2.2 l0 N1
    obtain ⟨r2, z2, ⟨y1, y2, y3, y4, y5⟩, k2⟩ := Hr_use (m_rnLG E d (t := tt) hx1 l0 x4 h81 N1 (by decide) (lv := 0) (hv := 6) (by decide) (by decide))
    subst y1
    obtain ⟨f2, tt⟩ := z2
    dsimp only at y2 y3 y4 y5
    subst y2
    obtain ⟨f3, hf3⟩ : ∃ g : Nat → Nat → Int32, g = set2 f2 133 (3 * np) (nI a) := ⟨_, rfl⟩
    have w3 := wi_k j133 (show 3 * np < 110 by omega) (by decide) (f2, tt) (nI a)
    dsimp only at w3
    rw [← hf3] at w3
    have L3 : LT tx f3 e1 := LT_c (by rw [hf3, set2_a (by decide)]) y4
    have n3 : FrN f f3 := FrN_t n1 (FrN_t (FrN_m y3) (by rw [hf3]; exact FrN_3 _ _ _))
    have h83 : f3 129 8 = -1 := by rw [hf3, set2_a (by decide)]; exact y5
    have g3 := m_isGood E (d + 2) (f3, tt)
    dsimp only at g3
    rw [decide_eq_true h83] at g3
    have hx3 := FrN_x n3 hx
    rcases hF with hF | ⟨b, e2, N2, hF⟩
    · have hs' := numF_nl hx.2.2.2 l1 hF
      obtain ⟨x, k4⟩ := m_rnLF E d (t := tt) hx3 l1 L3 h83 hF (by decide) (by decide) (lv := 0) (hv := 60) (by decide) (by decide)
      obtain ⟨f4, hf4⟩ : ∃ g : Nat → Nat → Int32, g = set2 f3 129 8 (nI s') := ⟨_, rfl⟩
      rw [← hf4] at k4
      obtain ⟨f5, hf5⟩ : ∃ g : Nat → Nat → Int32, g = set2 f4 133 (3 * np + 1) x := ⟨_, rfl⟩
      have w5 := wi_k j133 (show 3 * np + 1 < 110 by omega) (by decide) (f4, tt) x
      dsimp only at w5
      rw [← hf5] at w5
      have e8 : f5 129 8 = nI s' := by rw [hf5, set2_a (by decide), hf4, set2_s]
      obtain ⟨f', a1, a2, en⟩ := m_part83 E d (f := f5) (t := tt) (by rw [e8]; exact s_nm (by omega)) hnp
      refine Hr_of (z' := (f', tt)) (r := none) (fun K => ?_) (Or.inl ⟨rfl, rfl, FrN_t n3 (FrN_t (g := f4) (by rw [hf4]; exact FrN_8 _ _) (FrN_t (g := f5) (by rw [hf5]; exact FrN_3 _ _ _) a1)), by show f' 129 8 = _; rw [a2]; exact e8⟩)
      simp only [↓c_X9_readPart, ↓e_X9_readPart_0, ↓e_X9_readPart_5, ↓e_X9_readPart_8, ↓e_X9_readPart_13, ↓e_X9_readPart_17, ↓e_X9_readPart_18, ↓e_X9_readPart_21, ↓e_X9_readPart_25, ↓e_X9_readPart_28, ↓e_X9_readPart_32, ↓e_X9_readPart_38, ↓e_X9_readPart_41, ↓e_X9_readPart_48, ↓e_X9_readPart_56, ↓e_X9_readPart_57, ↓e_X9_readPart_61, ↓e_X9_readPart_68, ↓e_X9_readPart_71, ↓e_X9_readPart_78, ↓e_X9_readPart_81, ↓e_X9_readPart_82, ↓e_X9_readPart_87, ↓e_X9_readPart_94, ↓e_X9_readPart_97, ↓e_X9_readPart_104, ↓e_X9_readPart_107, ↓e_X9_readPart_108, ↓e_X9_readPart_113, ↓e_X9_readPart_117, ↓e_X9_readPart_120, g9 o9_129, v9 o9_129, Nat.reduceAdd, n104, r0, v0, l6, m_needs1, g0, k1, r1', v1', ix_p, ix_1, k2, w3, g3, k4, w5, en, zps_s, zps_n, bI_t, i01, zk_i, zk_r, zk_n, ↓reduceIte]
    · have l2 := num_nl hx.2.2.2 l1 N2
      rcases hF with hF | ⟨c, e3, N3, hF⟩
      · have hs' := numF_nl hx.2.2.2 l2 hF
        obtain ⟨r4, z4, ⟨u1, u2, u3, u4, u5⟩, k4⟩ := Hr_use (m_rnLG E d (t := tt) hx3 l1 L3 h83 N2 (by decide) (lv := 0) (hv := 60) (by decide) (by decide))
        subst u1
        obtain ⟨f4, tt⟩ := z4
        dsimp only at u2 u3 u4 u5
        subst u2
        obtain ⟨f5, hf5⟩ : ∃ g : Nat → Nat → Int32, g = set2 f4 133 (3 * np + 1) (nI b) := ⟨_, rfl⟩
        have w5 := wi_k j133 (show 3 * np + 1 < 110 by omega) (by decide) (f4, tt) (nI b)
        dsimp only at w5
        rw [← hf5] at w5
        have L5 : LT tx f5 e2 := LT_c (by rw [hf5, set2_a (by decide)]) u4
        have n5 : FrN f f5 := FrN_t n3 (FrN_t (FrN_m u3) (by rw [hf5]; exact FrN_3 _ _ _))
        have h85 : f5 129 8 = -1 := by rw [hf5, set2_a (by decide)]; exact u5
        have g5' := m_isGood E (d + 2) (f5, tt)
        dsimp only at g5'
        rw [decide_eq_true h85] at g5'
        obtain ⟨x, k6⟩ := m_rnLF E d (t := tt) (FrN_x n5 hx) l2 L5 h85 hF (by decide) (by decide) (lv := 0) (hv := 9) (by decide) (by decide)
        obtain ⟨f6, hf6⟩ : ∃ g : Nat → Nat → Int32, g = set2 f5 129 8 (nI s') := ⟨_, rfl⟩
        rw [← hf6] at k6
        obtain ⟨f7, hf7⟩ : ∃ g : Nat → Nat → Int32, g = set2 f6 133 (3 * np + 2) x := ⟨_, rfl⟩
        have w7 := wi_k j133 (show 3 * np + 2 < 110 by omega) (by decide) (f6, tt) x
        dsimp only at w7
        rw [← hf7] at w7
        have e8 : f7 129 8 = nI s' := by rw [hf7, set2_a (by decide), hf6, set2_s]
        have en := m_partE E d f7 tt (nI (3 * np))
        obtain ⟨f', hf'⟩ : ∃ g : Nat → Nat → Int32, g = set2 f7 133 104 (f7 133 104 + 1) := ⟨_, rfl⟩
        rw [← hf'] at en
        refine Hr_of (z' := (f', tt)) (r := none) (fun K => ?_) (Or.inl ⟨rfl, rfl, FrN_t n5 (FrN_t (g := f6) (by rw [hf6]; exact FrN_8 _ _) (FrN_t (g := f7) (by rw [hf7]; exact FrN_3 _ _ _) (by show FrN f7 f'; rw [hf']; exact FrN_3 _ _ _))), by show f' 129 8 = _; rw [hf', set2_a (by decide)]; exact e8⟩)
        simp only [↓c_X9_readPart, ↓e_X9_readPart_0, ↓e_X9_readPart_5, ↓e_X9_readPart_8, ↓e_X9_readPart_13, ↓e_X9_readPart_17, ↓e_X9_readPart_18, ↓e_X9_readPart_21, ↓e_X9_readPart_25, ↓e_X9_readPart_28, ↓e_X9_readPart_32, ↓e_X9_readPart_38, ↓e_X9_readPart_41, ↓e_X9_readPart_48, ↓e_X9_readPart_56, ↓e_X9_readPart_57, ↓e_X9_readPart_61, ↓e_X9_readPart_68, ↓e_X9_readPart_71, ↓e_X9_readPart_78, ↓e_X9_readPart_81, ↓e_X9_readPart_82, ↓e_X9_readPart_83, ↓e_X9_readPart_87, ↓e_X9_readPart_94, ↓e_X9_readPart_97, ↓e_X9_readPart_104, ↓e_X9_readPart_107, ↓e_X9_readPart_108, ↓e_X9_readPart_113, ↓e_X9_readPart_117, ↓e_X9_readPart_120, g9 o9_129, v9 o9_129, Nat.reduceAdd, n104, r0, v0, l6, m_needs1, g0, k1, r1', v1', ix_p, ix_1, ix_2, k2, w3, g3, k4, w5, g5', k6, w7, en, zps_s, zps_n, bI_t, i01, zk_i, zk_r, zk_n, ↓reduceIte]
      · have l3 := num_nl hx.2.2.2 l2 N3
        obtain ⟨r, z, hz, kk⟩ := Hr_use (m_partLG E d (t := tt) hx hD h104 hnp hi hL hT h8 N1 N2 N3)
        exact Hr_of kk (Or.inr ⟨e3, _, hz, l3, hF⟩)
/-- six parts are there already -/
theorem m_part6 (E : zE) (d : Nat) {f : Nat → Nat → Int32} {t : (Nat → Nat → Int64) × Nat} {D : Nat → Int32} (hD : D133 f D) (h104 : D 104 = nI 6) {s : Nat} (hs : s ≤ 240) (h5 : f 129 5 = nI s) (h8 : f 129 8 = -1) : Hr E (d + 3) 142 [.ref 129] (f, t) (BadI f t s) := by
  have r0 := ri_k j133 (show 104 < 110 by decide) (by decide) E (f, t)
  have v0 : f 133 104 = nI 6 := (hD 104 (by decide)).trans h104
  have l6 : (nI 6 < 6) = False := by decide
  have nd := m_needs0 E (d + 2) (f := f) (t := t) h8
  rw [h5] at nd
  obtain ⟨f1, hf1⟩ : ∃ g : Nat → Nat → Int32, g = set2 f 129 8 (nI s) := ⟨_, rfl⟩
  rw [← hf1] at nd
  have e8 : f1 129 8 = nI s := by rw [hf1, set2_s]
  have g0 := m_isGood E (d + 2) (f1, t)
  dsimp only at g0
  rw [decide_eq_false (show ¬ f1 129 8 = -1 by rw [e8]; exact s_nm hs)] at g0
  refine Hr_of (z' := (f1, t)) (r := none) (fun K => ?_) ⟨rfl, rfl, by rw [hf1]; exact FrN_8 _ _, e8⟩
  simp only [↓c_X9_readPart, ↓e_X9_readPart_0, ↓e_X9_readPart_5, ↓e_X9_readPart_8, ↓e_X9_readPart_13, ↓e_X9_readPart_17, ↓e_X9_readPart_18, ↓e_X9_readPart_21, ↓e_X9_readPart_25, ↓e_X9_readPart_28, ↓e_X9_readPart_32, ↓e_X9_readPart_38, ↓e_X9_readPart_41, ↓e_X9_readPart_48, ↓e_X9_readPart_56, ↓e_X9_readPart_57, ↓e_X9_readPart_61, ↓e_X9_readPart_68, ↓e_X9_readPart_71, ↓e_X9_readPart_78, ↓e_X9_readPart_81, ↓e_X9_readPart_82, ↓e_X9_readPart_83, ↓e_X9_readPart_87, ↓e_X9_readPart_94, ↓e_X9_readPart_97, ↓e_X9_readPart_104, ↓e_X9_readPart_107, ↓e_X9_readPart_108, ↓e_X9_readPart_109, ↓e_X9_readPart_113, ↓e_X9_readPart_117, ↓e_X9_readPart_120, g9 o9_129, v9 o9_129, Nat.reduceAdd, n104, r0, v0, l6, nd, g0, zps_s, zps_n, bI_f, zk_i, zk_r, zk_n, ↓reduceIte]
end F8
