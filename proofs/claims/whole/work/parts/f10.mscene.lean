/-! READ: scenes, in the reference -/
section F10
variable {tx : Nat → Int32} {nl : Nat}
theorem n106' : (106 : Int32) = nI 106 := by decide
theorem D133_e {f : Nat → Nat → Int32} {D D' : Nat → Int32} (h : D133 f D) (e : ∀ j, j < 110 → D j = D' j) : D133 f D' := fun j hj => (h j hj).trans (e j hj)
theorem D133_r (f : Nat → Nat → Int32) : D133 f (f 133) := fun _ _ => rfl
theorem m_sc133 (E : zE) (d : Nat) (f : Nat → Nat → Int32) (t : (Nat → Nat → Int64) × Nat) (x1 x2 x3 x4 : Option Value) (Q : Option Value → zH → Prop) : Ev E (d + 3) zm_X9_readScene 133 [some (.ref 129), x1, x2, x3, x4] [] (HP (f, t)) Q = Q none (HP (set2 f 133 106 (f 133 106 + 1), t)) := by
  have r := ri_k j133 (show 106 < 110 by decide) (by decide) E (f, t)
  have w := wi_k j133 (show 106 < 110 by decide) (by decide) (f, t) (f 133 106 + 1)
  dsimp only at r w
  rw [e_X9_readScene_133]
  simp only [↓e_X9_readScene_5, ↓e_X9_readScene_8, ↓e_X9_readScene_13, ↓e_X9_readScene_17, ↓e_X9_readScene_18, ↓e_X9_readScene_21, ↓e_X9_readScene_25, ↓e_X9_readScene_28, ↓e_X9_readScene_32, ↓e_X9_readScene_39, ↓e_X9_readScene_42, ↓e_X9_readScene_49, ↓e_X9_readScene_57, ↓e_X9_readScene_58, ↓e_X9_readScene_66, ↓e_X9_readScene_69, ↓e_X9_readScene_73, ↓e_X9_readScene_81, ↓e_X9_readScene_84, ↓e_X9_readScene_89, ↓e_X9_readScene_95, ↓e_X9_readScene_98, ↓e_X9_readScene_102, ↓e_X9_readScene_107, ↓e_X9_readScene_113, ↓e_X9_readScene_116, ↓e_X9_readScene_120, ↓e_X9_readScene_124, ↓e_X9_readScene_128, ↓e_X9_readScene_129, ↓e_X9_readScene_137, ↓e_X9_readScene_141, ↓e_X9_readScene_144, g9 o9_129, Nat.reduceAdd, n106', r, w, zk_i, zk_r, zk_n]
/-- after a fault the loop ends -/
theorem m_scB (E : zE) (d : Nat) {f : Nat → Nat → Int32} {t : (Nat → Nat → Int64) × Nat} (h8 : ¬ f 129 8 = -1) (x1 x2 x3 x4 : Option Value) : ∃ f', FrN f f' ∧ f' 129 = f 129 ∧ ∀ Q, Ev E (d + 3) zm_X9_readScene 62 [some (.ref 129), x1, x2, x3, x4] [] (HP (f, t)) Q = Q none (HP (f', t)) := by
  have g := m_isGood E (d + 2) (f, t)
  dsimp only at g
  rw [decide_eq_false h8] at g
  have en := m_sc133 E d f t x1 x2 x3 x4
  refine ⟨set2 f 133 106 (f 133 106 + 1), FrN_3 _ _ _, by rw [set2_a (by decide)], fun Q => ?_⟩
  rw [e_X9_readScene_62]
  simp only [↓e_X9_readScene_5, ↓e_X9_readScene_8, ↓e_X9_readScene_13, ↓e_X9_readScene_17, ↓e_X9_readScene_18, ↓e_X9_readScene_21, ↓e_X9_readScene_25, ↓e_X9_readScene_28, ↓e_X9_readScene_32, ↓e_X9_readScene_39, ↓e_X9_readScene_42, ↓e_X9_readScene_49, ↓e_X9_readScene_57, ↓e_X9_readScene_58, ↓e_X9_readScene_66, ↓e_X9_readScene_69, ↓e_X9_readScene_73, ↓e_X9_readScene_81, ↓e_X9_readScene_84, ↓e_X9_readScene_89, ↓e_X9_readScene_95, ↓e_X9_readScene_98, ↓e_X9_readScene_102, ↓e_X9_readScene_107, ↓e_X9_readScene_113, ↓e_X9_readScene_116, ↓e_X9_readScene_120, ↓e_X9_readScene_124, ↓e_X9_readScene_128, ↓e_X9_readScene_129, ↓e_X9_readScene_137, ↓e_X9_readScene_141, ↓e_X9_readScene_144, v9 o9_129, g, en, zps_s, bI_f, zk_i, zk_r, zk_n, ↓reduceIte]
/-- one more part -/
theorem m_scN (E : zE) (d : Nat) {f : Nat → Nat → Int32} {t : (Nat → Nat → Int64) × Nat} (hx : RM f tx nl) {D : Nat → Int32} (hD : D133 f D) {np ns : Nat} (hnp : np ≤ 6) (hns : ns < 7) (h104 : D 104 = nI np) {m i l n e : Nat} (hm : m < 64) (hmD : D (90 + 2 * ns + 1) = nI m) (hi : i ≤ nl) (hL : LT tx f i) (h8 : f 129 8 = -1) {last : Int32} (hla : last + 1 = nI l) (hN : Num tx i l np n e) (y : Option Value) : ∃ f', FrN f f' ∧ LT tx f' e ∧ f' 129 8 = -1 ∧ D133 f' (upd D (90 + 2 * ns + 1) (nI (m ||| 2 ^ n))) ∧ ∀ Q, Ev E (d + 3) zm_X9_readScene 62 [some (.ref 129), some (.int (nI (90 + 2 * ns))), some (.int last), some (.int 1), y] [] (HP (f, t)) Q = Ev E (d + 3) zm_X9_readScene 62 [some (.ref 129), some (.int (nI (90 + 2 * ns))), some (.int (nI n)), some (.int (bI (decide (f' 129 6 = 2)))), some (.int (nI n))] [] (HP (f', t)) Q := by
  have r0 := ri_k j133 (show 104 < 110 by decide) (by decide) E (f, t)
  have v0 : f 133 104 = nI np := (hD 104 (by decide)).trans h104
  have g0 := m_isGood E (d + 2) (f, t)
  dsimp only at g0
  rw [decide_eq_true h8] at g0
  obtain ⟨r2, z2, ⟨y1, y2, y3, y4, y5⟩, k2⟩ := Hr_use (m_rnLG E d (t := t) hx hi hL h8 hN (by omega) rfl rfl)
  subst y1
  obtain ⟨f2, tt⟩ := z2
  dsimp only at y2 y3 y4 y5
  subst y2
  have g2 := m_isGood E (d + 2) (f2, tt)
  dsimp only at g2
  rw [decide_eq_true y5] at g2
  have D2 : D133 f2 D := D133_c (y3.1 133 (by decide)) hD
  have r2' := ri_k j133 (show 90 + 2 * ns + 1 < 110 by omega) (by decide) E (f2, tt)
  have v2 : f2 133 (90 + 2 * ns + 1) = nI m := (D2 _ (by omega)).trans hmD
  obtain ⟨o1, o2⟩ := or_64 m hm n (by have := hN.2.1; omega)
  obtain ⟨f3, hf3⟩ : ∃ g : Nat → Nat → Int32, g = set2 f2 133 (90 + 2 * ns + 1) (nI (m ||| 2 ^ n)) := ⟨_, rfl⟩
  have w3 := wi_k j133 (show 90 + 2 * ns + 1 < 110 by omega) (by decide) (f2, tt) (nI (m ||| 2 ^ n))
  dsimp only at w3
  rw [← hf3] at w3
  refine ⟨f3, FrN_t (FrN_m y3) (by rw [hf3]; exact FrN_3 _ _ _), LT_c (by rw [hf3, set2_a (by decide)]) y4, by rw [hf3, set2_a (by decide)]; exact y5, by rw [hf3]; exact D133_w D2 _ _, fun Q => ?_⟩
  by_cases q : f3 129 6 = 2
  · have q' : (f3 129 6 = 2) = True := eq_true q
    rw [decide_eq_true q, e_X9_readScene_62]
    simp only [↓e_X9_readScene_5, ↓e_X9_readScene_8, ↓e_X9_readScene_13, ↓e_X9_readScene_17, ↓e_X9_readScene_18, ↓e_X9_readScene_21, ↓e_X9_readScene_25, ↓e_X9_readScene_28, ↓e_X9_readScene_32, ↓e_X9_readScene_39, ↓e_X9_readScene_42, ↓e_X9_readScene_49, ↓e_X9_readScene_57, ↓e_X9_readScene_58, ↓e_X9_readScene_66, ↓e_X9_readScene_69, ↓e_X9_readScene_73, ↓e_X9_readScene_81, ↓e_X9_readScene_84, ↓e_X9_readScene_89, ↓e_X9_readScene_95, ↓e_X9_readScene_98, ↓e_X9_readScene_102, ↓e_X9_readScene_107, ↓e_X9_readScene_113, ↓e_X9_readScene_116, ↓e_X9_readScene_120, ↓e_X9_readScene_124, ↓e_X9_readScene_128, ↓e_X9_readScene_129, ↓e_X9_readScene_137, ↓e_X9_readScene_141, ↓e_X9_readScene_144, g9 o9_129, v9 o9_129, Nat.reduceAdd, g0, i01, n104, r0, v0, hla, k2, g2, ix_1, r2', v2, o1, w3, q', zps_s, bI_t, zk_i, zk_r, zk_n, ↓reduceIte]
  · rw [decide_eq_false q, e_X9_readScene_62]
    simp only [↓e_X9_readScene_5, ↓e_X9_readScene_8, ↓e_X9_readScene_13, ↓e_X9_readScene_17, ↓e_X9_readScene_18, ↓e_X9_readScene_21, ↓e_X9_readScene_25, ↓e_X9_readScene_28, ↓e_X9_readScene_32, ↓e_X9_readScene_39, ↓e_X9_readScene_42, ↓e_X9_readScene_49, ↓e_X9_readScene_57, ↓e_X9_readScene_58, ↓e_X9_readScene_66, ↓e_X9_readScene_69, ↓e_X9_readScene_73, ↓e_X9_readScene_81, ↓e_X9_readScene_84, ↓e_X9_readScene_89, ↓e_X9_readScene_95, ↓e_X9_readScene_98, ↓e_X9_readScene_102, ↓e_X9_readScene_107, ↓e_X9_readScene_113, ↓e_X9_readScene_116, ↓e_X9_readScene_120, ↓e_X9_readScene_124, ↓e_X9_readScene_128, ↓e_X9_readScene_129, ↓e_X9_readScene_137, ↓e_X9_readScene_141, ↓e_X9_readScene_144, g9 o9_129, v9 o9_129, Nat.reduceAdd, g0, i01, n104, r0, v0, hla, k2, g2, ix_1, r2', v2, o1, w3, q, zps_s, bI_t, bI_f, zk_i, zk_r, zk_n, ↓reduceIte]
theorem m_scX (E : zE) (d : Nat) {f : Nat → Nat → Int32} {t : (Nat → Nat → Int64) × Nat} (h8 : f 129 8 = -1) (x1 x2 x4 : Option Value) (Q : Option Value → zH → Prop) : Ev E (d + 3) zm_X9_readScene 62 [some (.ref 129), x1, x2, some (.int 0), x4] [] (HP (f, t)) Q = Q none (HP (set2 f 133 106 (f 133 106 + 1), t)) := by
  have g := m_isGood E (d + 2) (f, t)
  dsimp only at g
  rw [decide_eq_true h8] at g
  have en := m_sc133 E d f t x1 x2 (some (.int 0)) x4
  rw [e_X9_readScene_62]
  simp only [↓e_X9_readScene_5, ↓e_X9_readScene_8, ↓e_X9_readScene_13, ↓e_X9_readScene_17, ↓e_X9_readScene_18, ↓e_X9_readScene_21, ↓e_X9_readScene_25, ↓e_X9_readScene_28, ↓e_X9_readScene_32, ↓e_X9_readScene_39, ↓e_X9_readScene_42, ↓e_X9_readScene_49, ↓e_X9_readScene_57, ↓e_X9_readScene_58, ↓e_X9_readScene_66, ↓e_X9_readScene_69, ↓e_X9_readScene_73, ↓e_X9_readScene_81, ↓e_X9_readScene_84, ↓e_X9_readScene_89, ↓e_X9_readScene_95, ↓e_X9_readScene_98, ↓e_X9_readScene_102, ↓e_X9_readScene_107, ↓e_X9_readScene_113, ↓e_X9_readScene_116, ↓e_X9_readScene_120, ↓e_X9_readScene_124, ↓e_X9_readScene_128, ↓e_X9_readScene_129, ↓e_X9_readScene_137, ↓e_X9_readScene_141, ↓e_X9_readScene_144, v9 o9_129, g, en, i01, zps_s, bI_t, zk_i, zk_r, zk_n, ↓reduceIte]
theorem m_scS (E : zE) (d : Nat) {t : (Nat → Nat → Int64) × Nat} {np ns : Nat} (hnp : np ≤ 6) (hns : ns < 7) : ∀ k (b : Bool) (f : Nat → Nat → Int32) (D : Nat → Int32) i l m m' i' (last : Int32) (y : Option Value), RM f tx nl → D133 f D → D 104 = nI np → D 106 = nI ns → m < 64 → D (90 + 2 * ns + 1) = nI m → i ≤ nl → LT tx f i → f 129 8 = -1 → last + 1 = nI l → (b = true → 0 < k) → ScS tx np k i l m m' i' → ∃ f' j, FrN f f' ∧ LT tx f' j ∧ j ≤ nl ∧ StpS tx j i' ∧ f' 129 8 = -1 ∧ D133 f' (upd (upd D (90 + 2 * ns + 1) (nI m')) 106 (nI (ns + 1))) ∧ ∀ Q, Ev E (d + 3) zm_X9_readScene 62 [some (.ref 129), some (.int (nI (90 + 2 * ns))), some (.int last), some (.int (bI (b || decide (f 129 6 = 2)))), y] [] (HP (f, t)) Q = Q none (HP (f', t))
  | 0, b, f, D, i, l, m, m', i', last, y, hx, hD, h104, h106, hm, hmD, hi, hL, h8, hla, hb, hS => by
    obtain ⟨e1, hS⟩ := hS
    subst e1
    have k3 := (LT_3 hL hS).1
    have bf : (b || decide (f 129 6 = 2)) = false := by
      cases b with
      | true => exact absurd (hb rfl) (by decide)
      | false => rw [k3]; decide
    rw [bf]
    have v6 : f 133 106 = nI ns := (hD 106 (by decide)).trans h106
    have en := m_scX E d (t := t) h8 (some (.int (nI (90 + 2 * ns)))) (some (.int last)) y
    rw [v6, ix_1] at en
    refine ⟨set2 f 133 106 (nI (ns + 1)), i, FrN_3 _ _ _, LT_c (by rw [set2_a (by decide)]) hL, hi, hS, by rw [set2_a (by decide)]; exact h8, ?_, fun Q => en Q⟩
    refine D133_w (D133_e hD (fun j hj => ?_)) _ _
    by_cases q : j = 90 + 2 * ns + 1
    · rw [q, uS]
      exact hmD
    · rw [uN q]
  | k + 1, b, f, D, i, l, m, m', i', last, y, hx, hD, h104, h106, hm, hmD, hi, hL, h8, hla, hb, hS => by
    obtain ⟨n, e, hN, hS⟩ := hS
    have k2 := (LT_2 hL hN).1
    have bt : (b || decide (f 129 6 = 2)) = true := by rw [k2, decide_eq_true rfl, Bool.or_true]
    rw [bt]
    have o2 := (or_64 m hm n (by have := hN.2.1; omega)).2
    obtain ⟨f1, a1, a2, a3, a4, kk⟩ := m_scN E d (t := t) hx hD hnp hns h104 hm hmD hi hL h8 hla hN y
    obtain ⟨f2, j, b1, b2, b3, b4, b5, b6, kk2⟩ := m_scS E d (t := t) hnp hns k false f1 _ e (n + 1) (m ||| 2 ^ n) m' i' (nI n) (some (.int (nI n))) (FrN_x a1 hx) a4 (by rw [uN (by omega)]; exact h104) (by rw [uN (by omega)]; exact h106) o2 (uS _ _ _) (num_nl hx.2.2.2 hi hN) a2 a3 (ix_1 n) (fun h => absurd h (by decide)) hS
    refine ⟨f2, j, FrN_t a1 b1, b2, b3, b4, b5, D133_e b6 (fun j hj => ?_), fun Q => ?_⟩
    · unfold upd
      by_cases q1 : j = 106
      · rw [if_pos q1, if_pos q1]
      · rw [if_neg q1, if_neg q1]
        by_cases q2 : j = 90 + 2 * ns + 1
        · rw [if_pos q2, if_pos q2]
        · rw [if_neg q2, if_neg q2, if_neg q2]
    · rw [Bool.false_or] at kk2
      rw [bI_t, kk, kk2]
theorem m_scF (E : zE) (d : Nat) {t : (Nat → Nat → Int64) × Nat} {np ns s : Nat} (hnp : np ≤ 6) (hns : ns < 7) : ∀ k (b : Bool) (f : Nat → Nat → Int32) (D : Nat → Int32) i l m (last : Int32) (y : Option Value), RM f tx nl → D133 f D → D 104 = nI np → m < 64 → D (90 + 2 * ns + 1) = nI m → i ≤ nl → LT tx f i → f 129 8 = -1 → l ≤ 100 → last + 1 = nI l → ScF tx np k b i l s → ∃ f', FrN f f' ∧ (f' 129 8 = nI s ∨ ∃ j, LT tx f' j ∧ j ≤ nl ∧ StpF tx j s ∧ f' 129 8 = -1) ∧ ∀ Q, Ev E (d + 3) zm_X9_readScene 62 [some (.ref 129), some (.int (nI (90 + 2 * ns))), some (.int last), some (.int (bI (b || decide (f 129 6 = 2)))), y] [] (HP (f, t)) Q = Q none (HP (f', t))
  | 0, b, f, D, i, l, m, last, y, hx, hD, h104, hm, hmD, hi, hL, h8, hl, hla, hF => by
    have h240 := hx.2.1
    obtain ⟨e, kk, v, hT, hb, hn⟩ := hF
    have hs := (tok_nl hx.2.2.2 hi hT).1
    cases bo : (b || decide (f 129 6 = 2)) with
    | false =>
      rw [Bool.or_eq_false_iff] at bo
      have en := m_scX E d (t := t) h8 (some (.int (nI (90 + 2 * ns)))) (some (.int last)) y
      have k3 : ¬ kk = 3 := by
        rcases hb with hb | hb
        · rw [bo.1] at hb
          exact absurd hb (by decide)
        · exact hb
      exact ⟨_, FrN_3 _ _ _, Or.inr ⟨i, LT_c (by rw [set2_a (by decide)]) hL, hi, ⟨e, kk, v, hT, k3⟩, by rw [set2_a (by decide)]; exact h8⟩, fun Q => en Q⟩
    | true =>
      have r0 := ri_k j133 (show 104 < 110 by decide) (by decide) E (f, t)
      have v0 : f 133 104 = nI np := (hD 104 (by decide)).trans h104
      have g0 := m_isGood E (d + 2) (f, t)
      dsimp only at g0
      rw [decide_eq_true h8] at g0
      obtain ⟨x, k2⟩ := m_rnLF E d (t := t) hx hi hL h8 (lo := l) (hb := np) ⟨e, kk, v, hT, hn⟩ hl (by omega) rfl rfl
      obtain ⟨f2, hf2⟩ : ∃ g : Nat → Nat → Int32, g = set2 f 129 8 (nI s) := ⟨_, rfl⟩
      rw [← hf2] at k2
      have e8 : f2 129 8 = nI s := by rw [hf2, set2_s]
      have n8 : ¬ f2 129 8 = -1 := by rw [e8]; exact s_nm (by omega)
      have g2 := m_isGood E (d + 2) (f2, t)
      dsimp only at g2
      rw [decide_eq_false n8] at g2
      by_cases q : f2 129 6 = 2
      · have q' : (f2 129 6 = 2) = True := eq_true q
        obtain ⟨f', c1, c2, en⟩ := m_scB E d (t := t) n8 (some (.int (nI (90 + 2 * ns)))) (some (.int last)) (some (.int 1)) (some (.int x))
        refine ⟨f', FrN_t (g := f2) (by rw [hf2]; exact FrN_8 _ _) c1, Or.inl (by rw [c2]; exact e8), fun Q => ?_⟩
        rw [bI_t, e_X9_readScene_62]
        simp only [↓e_X9_readScene_5, ↓e_X9_readScene_8, ↓e_X9_readScene_13, ↓e_X9_readScene_17, ↓e_X9_readScene_18, ↓e_X9_readScene_21, ↓e_X9_readScene_25, ↓e_X9_readScene_28, ↓e_X9_readScene_32, ↓e_X9_readScene_39, ↓e_X9_readScene_42, ↓e_X9_readScene_49, ↓e_X9_readScene_57, ↓e_X9_readScene_58, ↓e_X9_readScene_66, ↓e_X9_readScene_69, ↓e_X9_readScene_73, ↓e_X9_readScene_81, ↓e_X9_readScene_84, ↓e_X9_readScene_89, ↓e_X9_readScene_95, ↓e_X9_readScene_98, ↓e_X9_readScene_102, ↓e_X9_readScene_107, ↓e_X9_readScene_113, ↓e_X9_readScene_116, ↓e_X9_readScene_120, ↓e_X9_readScene_124, ↓e_X9_readScene_128, ↓e_X9_readScene_129, ↓e_X9_readScene_137, ↓e_X9_readScene_141, ↓e_X9_readScene_144, g9 o9_129, v9 o9_129, Nat.reduceAdd, g0, i01, n104, r0, v0, hla, k2, g2, q', en, zps_s, bI_t, bI_f, zk_i, zk_r, zk_n, ↓reduceIte]
      · obtain ⟨f', c1, c2, en⟩ := m_scB E d (t := t) n8 (some (.int (nI (90 + 2 * ns)))) (some (.int last)) (some (.int 0)) (some (.int x))
        refine ⟨f', FrN_t (g := f2) (by rw [hf2]; exact FrN_8 _ _) c1, Or.inl (by rw [c2]; exact e8), fun Q => ?_⟩
        rw [bI_t, e_X9_readScene_62]
        simp only [↓e_X9_readScene_5, ↓e_X9_readScene_8, ↓e_X9_readScene_13, ↓e_X9_readScene_17, ↓e_X9_readScene_18, ↓e_X9_readScene_21, ↓e_X9_readScene_25, ↓e_X9_readScene_28, ↓e_X9_readScene_32, ↓e_X9_readScene_39, ↓e_X9_readScene_42, ↓e_X9_readScene_49, ↓e_X9_readScene_57, ↓e_X9_readScene_58, ↓e_X9_readScene_66, ↓e_X9_readScene_69, ↓e_X9_readScene_73, ↓e_X9_readScene_81, ↓e_X9_readScene_84, ↓e_X9_readScene_89, ↓e_X9_readScene_95, ↓e_X9_readScene_98, ↓e_X9_readScene_102, ↓e_X9_readScene_107, ↓e_X9_readScene_113, ↓e_X9_readScene_116, ↓e_X9_readScene_120, ↓e_X9_readScene_124, ↓e_X9_readScene_128, ↓e_X9_readScene_129, ↓e_X9_readScene_137, ↓e_X9_readScene_141, ↓e_X9_readScene_144, g9 o9_129, v9 o9_129, Nat.reduceAdd, g0, i01, n104, r0, v0, hla, k2, g2, q, en, zps_s, bI_t, bI_f, zk_i, zk_r, zk_n, ↓reduceIte]
  | k + 1, b, f, D, i, l, m, last, y, hx, hD, h104, hm, hmD, hi, hL, h8, hl, hla, hF => by
    obtain ⟨n, e, hN, hF⟩ := hF
    have k2 := (LT_2 hL hN).1
    have bt : (b || decide (f 129 6 = 2)) = true := by rw [k2, decide_eq_true rfl, Bool.or_true]
    rw [bt]
    have o2 := (or_64 m hm n (by have := hN.2.1; omega)).2
    obtain ⟨f1, a1, a2, a3, a4, kk⟩ := m_scN E d (t := t) hx hD hnp hns h104 hm hmD hi hL h8 hla hN y
    obtain ⟨f2, b1, b2, kk2⟩ := m_scF E d (t := t) hnp hns k false f1 _ e (n + 1) (m ||| 2 ^ n) (nI n) (some (.int (nI n))) (FrN_x a1 hx) a4 (by rw [uN (by omega)]; exact h104) o2 (uS _ _ _) (num_nl hx.2.2.2 hi hN) a2 a3 (by have := hN.2.2.1; omega) (ix_1 n) hF
    refine ⟨f2, FrN_t a1 b1, b2, fun Q => ?_⟩
    rw [Bool.false_or] at kk2
    rw [bI_t, kk, kk2]
theorem ix_s (ns : Nat) : (90 : Int32) + 2 * nI ns = nI (90 + 2 * ns) := by rw [show (90 : Int32) = nI 90 from by decide, show (2 : Int32) = nI 2 from by decide, nI_mul, nI_add]
theorem m_scI (E : zE) (d : Nat) {f : Nat → Nat → Int32} {t : (Nat → Nat → Int64) × Nat} (hx : RM f tx nl) {D : Nat → Int32} (hD : D133 f D) {ns : Nat} (h106 : D 106 = nI ns) (hns : ns < 7) {i s e : Nat} {v : Int32} (hi : i ≤ nl) (hL : LT tx f i) (hT : Tok tx i s e 1 v) (h8 : f 129 8 = -1) : ∃ f1, FrN f f1 ∧ LT tx f1 e ∧ f1 129 8 = -1 ∧ D133 f1 D ∧ ∀ K, Cl E (d + 3) 144 [.ref 129] (HP (f, t)) K = Cl E (d + 2) 141 [.ref 129, .int 1, .int 20] (HP (f1, t)) (fun r h1 => Ev E (d + 3) zm_X9_readScene 57 [some (.ref 129), some (.int (nI (90 + 2 * ns))), none, none, none] (zps r [.int (nI (90 + 2 * ns)), .ref 133]) h1 K) := by
  have l0 := (tok_nl hx.2.2.2 hi hT).2
  have r0 := ri_k j133 (show 106 < 110 by decide) (by decide) E (f, t)
  have v0 : f 133 106 = nI ns := (hD 106 (by decide)).trans h106
  have l6 : (nI ns < 7) = True := eq_true (by rw [show (7 : Int32) = nI 7 from by decide, nI_lt_iff (by omega) (by decide)]; exact hns)
  have g0 := m_isGood E (d + 2) (f, t)
  dsimp only at g0
  rw [decide_eq_true h8] at g0
  obtain ⟨r1, z1, ⟨x1, x2, x3, x4⟩, k1⟩ := Hr_use (m_tokL E (d + 1) (t := t) hx l0 (LT_t hL hT).1)
  subst x1
  obtain ⟨f1, tt⟩ := z1
  dsimp only at x2 x3 x4
  subst x2
  have D1 : D133 f1 D := D133_c (x3.1 133 (by decide)) hD
  have r1' := ri_k j133 (show 106 < 110 by decide) (by decide) E (f1, tt)
  have v1' : f1 133 106 = nI ns := (D1 106 (by decide)).trans h106
  refine ⟨f1, FrN_m x3, x4, by rw [x3.2 8 (by decide) (by decide) (by decide) (by decide)]; exact h8, D1, fun K => ?_⟩
  simp only [↓c_X9_readScene, ↓e_X9_readScene_0, ↓e_X9_readScene_5, ↓e_X9_readScene_8, ↓e_X9_readScene_13, ↓e_X9_readScene_17, ↓e_X9_readScene_18, ↓e_X9_readScene_21, ↓e_X9_readScene_25, ↓e_X9_readScene_28, ↓e_X9_readScene_32, ↓e_X9_readScene_39, ↓e_X9_readScene_42, ↓e_X9_readScene_49, ↓e_X9_readScene_58, ↓e_X9_readScene_66, ↓e_X9_readScene_69, ↓e_X9_readScene_73, ↓e_X9_readScene_81, ↓e_X9_readScene_84, ↓e_X9_readScene_89, ↓e_X9_readScene_95, ↓e_X9_readScene_98, ↓e_X9_readScene_102, ↓e_X9_readScene_107, ↓e_X9_readScene_113, ↓e_X9_readScene_116, ↓e_X9_readScene_120, ↓e_X9_readScene_124, ↓e_X9_readScene_128, ↓e_X9_readScene_129, ↓e_X9_readScene_133, ↓e_X9_readScene_137, ↓e_X9_readScene_141, ↓e_X9_readScene_144, g9 o9_129, v9 o9_129, Nat.reduceAdd, n106', r0, v0, l6, m_needs1, g0, k1, r1', v1', ix_s, zps_s, zps_n, bI_t, i01, zk_i, zk_r, zk_n, ↓reduceIte]
theorem m_sceneLG (E : zE) (d : Nat) {f : Nat → Nat → Int32} {t : (Nat → Nat → Int64) × Nat} (hx : RM f tx nl) {D : Nat → Int32} (hD : D133 f D) {np ns : Nat} (hnp : np ≤ 6) (h104 : D 104 = nI np) (h106 : D 106 = nI ns) (hns : ns < 7) (hz : D (90 + 2 * ns + 1) = 0) {i s e : Nat} {v : Int32} (hi : i ≤ nl) (hL : LT tx f i) (hT : Tok tx i s e 1 v) (h8 : f 129 8 = -1) {m mask k e1 i' : Nat} (hN : Num tx e 1 21 m e1) (hk : 0 < k) (hS : ScS tx np k e1 0 0 mask i') : Hr E (d + 3) 144 [.ref 129] (f, t) (fun r z' => ∃ j, GoodI tx f t j (dScene D ns m mask) r z' ∧ j ≤ nl ∧ StpS tx j i') := by
  have l0 := (tok_nl hx.2.2.2 hi hT).2
  have l1 := num_nl hx.2.2.2 l0 hN
  obtain ⟨f1, a1, a2, a3, a4, k1⟩ := m_scI E d (t := t) hx hD h106 hns hi hL hT h8
  obtain ⟨r2, z2, ⟨y1, y2, y3, y4, y5⟩, k2⟩ := Hr_use (m_rnLG E d (t := t) (FrN_x a1 hx) l0 a2 a3 hN (by decide) (lv := 1) (hv := 20) (by decide) (by decide))
  subst y1
  obtain ⟨f2, tt⟩ := z2
  dsimp only at y2 y3 y4 y5
  subst y2
  obtain ⟨f3, hf3⟩ : ∃ g : Nat → Nat → Int32, g = set2 f2 133 (90 + 2 * ns) (nI m) := ⟨_, rfl⟩
  have w3 := wi_k j133 (show 90 + 2 * ns < 110 by omega) (by decide) (f2, tt) (nI m)
  dsimp only at w3
  rw [← hf3] at w3
  have F3 : FrN f f3 := FrN_t a1 (FrN_t (FrN_m y3) (by rw [hf3]; exact FrN_3 _ _ _))
  obtain ⟨f4, j, b1, b2, b3, b4, b5, b6, kk2⟩ := m_scS E d (t := tt) hnp hns k true f3 (upd D (90 + 2 * ns) (nI m)) e1 0 0 mask i' (-1) none (FrN_x F3 hx) (by rw [hf3]; exact D133_w (D133_c (y3.1 133 (by decide)) a4) _ _) (by rw [uN (by omega)]; exact h104) (by rw [uN (by omega)]; exact h106) (by decide) (by rw [uN (by omega)]; exact hz) l1 (LT_c (by rw [hf3, set2_a (by decide)]) y4) (by rw [hf3, set2_a (by decide)]; exact y5) (by decide) (fun _ => hk) hS
  rw [Bool.true_or, bI_t] at kk2
  refine Hr_of (z' := (f4, tt)) (r := none) (fun K => ?_) ⟨j, ⟨rfl, rfl, FrN_t F3 b1, b2, b5, b6⟩, b3, b4⟩
  rw [k1]
  simp only [↓e_X9_readScene_57, ↓e_X9_readScene_58, k2, w3, kk2, zps_s, zk_i, zk_r, zk_n]
theorem m_sceneLF (E : zE) (d : Nat) {f : Nat → Nat → Int32} {t : (Nat → Nat → Int64) × Nat} (hx : RM f tx nl) {D : Nat → Int32} (hD : D133 f D) {np ns : Nat} (hnp : np ≤ 6) (h104 : D 104 = nI np) (h106 : D 106 = nI ns) (hns : ns < 7) (hz : D (90 + 2 * ns + 1) = 0) {i s e s' : Nat} {v : Int32} (hi : i ≤ nl) (hL : LT tx f i) (hT : Tok tx i s e 1 v) (h8 : f 129 8 = -1) (hF : NumF tx e 1 21 s' ∨ ∃ m e1 k, Num tx e 1 21 m e1 ∧ ScF tx np k true e1 0 s') : Hr E (d + 3) 144 [.ref 129] (f, t) (fun r z' => BadI f t s' r z' ∨ ∃ j D', GoodI tx f t j D' r z' ∧ j ≤ nl ∧ StpF tx j s') := by
  have h240 := hx.2.1
  have l0 := (tok_nl hx.2.2.2 hi hT).2
  obtain ⟨f1, a1, a2, a3, a4, k1⟩ := m_scI E d (t := t) hx hD h106 hns hi hL hT h8
  rcases hF with hF | ⟨m, e1, k, hN, hF⟩
  · have hs := numF_nl hx.2.2.2 l0 hF
    obtain ⟨x, k2⟩ := m_rnLF E d (t := t) (FrN_x a1 hx) l0 a2 a3 hF (by decide) (by decide) (lv := 1) (hv := 20) (by decide) (by decide)
    obtain ⟨f2, hf2⟩ : ∃ g : Nat → Nat → Int32, g = set2 f1 129 8 (nI s') := ⟨_, rfl⟩
    rw [← hf2] at k2
    obtain ⟨f3, hf3⟩ : ∃ g : Nat → Nat → Int32, g = set2 f2 133 (90 + 2 * ns) x := ⟨_, rfl⟩
    have w3 := wi_k j133 (show 90 + 2 * ns < 110 by omega) (by decide) (f2, t) x
    dsimp only at w3
    rw [← hf3] at w3
    have e8 : f3 129 8 = nI s' := by rw [hf3, set2_a (by decide), hf2, set2_s]
    obtain ⟨f', c1, c2, en⟩ := m_scB E d (f := f3) (t := t) (by rw [e8]; exact s_nm (by omega)) (some (.int (nI (90 + 2 * ns)))) (some (.int (-1))) (some (.int 1)) none
    refine Hr_of (z' := (f', t)) (r := none) (fun K => ?_) (Or.inl ⟨rfl, rfl, FrN_t a1 (FrN_t (g := f2) (by rw [hf2]; exact FrN_8 _ _) (FrN_t (g := f3) (by rw [hf3]; exact FrN_3 _ _ _) c1)), by show f' 129 8 = _; rw [c2]; exact e8⟩)
    rw [k1]
    simp only [↓e_X9_readScene_57, ↓e_X9_readScene_58, k2, w3, en, zps_s, zk_i, zk_r, zk_n]
  · have l1 := num_nl hx.2.2.2 l0 hN
    obtain ⟨r2, z2, ⟨y1, y2, y3, y4, y5⟩, k2⟩ := Hr_use (m_rnLG E d (t := t) (FrN_x a1 hx) l0 a2 a3 hN (by decide) (lv := 1) (hv := 20) (by decide) (by decide))
    subst y1
    obtain ⟨f2, tt⟩ := z2
    dsimp only at y2 y3 y4 y5
    subst y2
    obtain ⟨f3, hf3⟩ : ∃ g : Nat → Nat → Int32, g = set2 f2 133 (90 + 2 * ns) (nI m) := ⟨_, rfl⟩
    have w3 := wi_k j133 (show 90 + 2 * ns < 110 by omega) (by decide) (f2, tt) (nI m)
    dsimp only at w3
    rw [← hf3] at w3
    have F3 : FrN f f3 := FrN_t a1 (FrN_t (FrN_m y3) (by rw [hf3]; exact FrN_3 _ _ _))
    obtain ⟨f4, b1, b2, kk2⟩ := m_scF E d (t := tt) hnp hns k true f3 (upd D (90 + 2 * ns) (nI m)) e1 0 0 (-1) none (FrN_x F3 hx) (by rw [hf3]; exact D133_w (D133_c (y3.1 133 (by decide)) a4) _ _) (by rw [uN (by omega)]; exact h104) (by decide) (by rw [uN (by omega)]; exact hz) l1 (LT_c (by rw [hf3, set2_a (by decide)]) y4) (by rw [hf3, set2_a (by decide)]; exact y5) (by decide) (by decide) hF
    rw [Bool.true_or, bI_t] at kk2
    refine Hr_of (z' := (f4, tt)) (r := none) (fun K => ?_) ?_
    · rw [k1]
      simp only [↓e_X9_readScene_57, ↓e_X9_readScene_58, k2, w3, kk2, zps_s, zk_i, zk_r, zk_n]
    · rcases b2 with b2 | ⟨j, c1, c2, c3, c4⟩
      · exact Or.inl ⟨rfl, rfl, FrN_t F3 b1, b2⟩
      · exact Or.inr ⟨j, _, ⟨rfl, rfl, FrN_t F3 b1, c1, c4, D133_r _⟩, c2, c3⟩
theorem m_scene7 (E : zE) (d : Nat) {f : Nat → Nat → Int32} {t : (Nat → Nat → Int64) × Nat} {D : Nat → Int32} (hD : D133 f D) (h106 : D 106 = nI 7) {s : Nat} (hs : s ≤ 240) (h5 : f 129 5 = nI s) (h8 : f 129 8 = -1) : Hr E (d + 3) 144 [.ref 129] (f, t) (BadI f t s) := by
  have r0 := ri_k j133 (show 106 < 110 by decide) (by decide) E (f, t)
  have v0 : f 133 106 = nI 7 := (hD 106 (by decide)).trans h106
  have l6 : (nI 7 < 7) = False := by decide
  have nd := m_needs0 E (d + 2) (f := f) (t := t) h8
  rw [h5] at nd
  obtain ⟨f1, hf1⟩ : ∃ g : Nat → Nat → Int32, g = set2 f 129 8 (nI s) := ⟨_, rfl⟩
  rw [← hf1] at nd
  have e8 : f1 129 8 = nI s := by rw [hf1, set2_s]
  have g0 := m_isGood E (d + 2) (f1, t)
  dsimp only at g0
  rw [decide_eq_false (show ¬ f1 129 8 = -1 by rw [e8]; exact s_nm hs)] at g0
  refine Hr_of (z' := (f1, t)) (r := none) (fun K => ?_) ⟨rfl, rfl, by rw [hf1]; exact FrN_8 _ _, e8⟩
  simp only [↓c_X9_readScene, ↓e_X9_readScene_0, ↓e_X9_readScene_5, ↓e_X9_readScene_8, ↓e_X9_readScene_13, ↓e_X9_readScene_17, ↓e_X9_readScene_18, ↓e_X9_readScene_21, ↓e_X9_readScene_25, ↓e_X9_readScene_28, ↓e_X9_readScene_32, ↓e_X9_readScene_39, ↓e_X9_readScene_42, ↓e_X9_readScene_49, ↓e_X9_readScene_57, ↓e_X9_readScene_58, ↓e_X9_readScene_66, ↓e_X9_readScene_69, ↓e_X9_readScene_73, ↓e_X9_readScene_81, ↓e_X9_readScene_84, ↓e_X9_readScene_89, ↓e_X9_readScene_95, ↓e_X9_readScene_98, ↓e_X9_readScene_102, ↓e_X9_readScene_107, ↓e_X9_readScene_113, ↓e_X9_readScene_116, ↓e_X9_readScene_120, ↓e_X9_readScene_124, ↓e_X9_readScene_128, ↓e_X9_readScene_129, ↓e_X9_readScene_133, ↓e_X9_readScene_137, ↓e_X9_readScene_141, ↓e_X9_readScene_144, g9 o9_129, v9 o9_129, Nat.reduceAdd, n106', r0, v0, l6, nd, g0, zps_s, zps_n, bI_f, zk_i, zk_r, zk_n, ↓reduceIte]
end F10
