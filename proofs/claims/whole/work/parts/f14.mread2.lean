/-! READ: the draft cleared and kept, and the loop over the items, in the reference -/
section F14
variable {tx : Nat → Int32} {nl : Nat}
def inb (k lo hi : Nat) : Bool := inL (nI k).toInt64 (nI lo).toInt64 (nI hi).toInt64
theorem cd_v : ∀ k, k < 110 → (if inL (nI k).toInt64 18 29 = true then (-1 : Int32) else if inL (nI k).toInt64 66 83 = true then -1 else 0) = Dz k := by decide +kernel
theorem m_clearDraft (E : zE) (d : Nat) (f : Nat → Nat → Int32) (t : (Nat → Nat → Int64) × Nat) : Hr E (d + 1) 132 [.ref 129] (f, t) (fun r z' => r = none ∧ z'.2 = t ∧ FrN f z'.1 ∧ z'.1 129 8 = -1 ∧ D133 z'.1 Dz) := by
  unfold Hr
  generalize hQ : (fun (r : Option Value) (h : zH) => ∃ z' : zS, h = HP z' ∧ (r = none ∧ z'.2 = t ∧ FrN f z'.1 ∧ z'.1 129 8 = -1 ∧ D133 z'.1 Dz)) = Q
  have loop : ∀ n k (f' : Nat → Nat → Int32), k + n = 110 → FrN f f' → (∀ j, j < k → f' 133 j = Dz j) → Ev E (d + 1) zm_X9_clearDraft 2 [some (.ref 129), some (.int (nI k))] [] (HP (f', t)) Q := by
    intro n
    induction n with
    | zero =>
      intro k f' hk hf hd
      have e : k = 110 := by omega
      subst e
      obtain ⟨f2, hf2⟩ : ∃ g : Nat → Nat → Int32, g = set2 f' 129 8 (-1) := ⟨_, rfl⟩
      have w := fun K => (p9 o9_129).2.2.2.2.1 (f', t) (-1) K
      dsimp only at w
      rw [← hf2] at w
      have qq : Q none (HP (f2, t)) := by
        rw [← hQ]
        exact ⟨(f2, t), rfl, rfl, rfl, FrN_t hf (by rw [hf2]; exact FrN_8 _ _), by show f2 129 8 = -1; rw [hf2, set2_s], fun j hj => by show f2 133 j = _; rw [hf2, set2_a (by decide)]; exact hd j hj⟩
      have c : (nI 110 < 110) = False := by decide
      rw [e_X9_clearDraft_2]
      simp only [↓e_X9_clearDraft_8, ↓e_X9_clearDraft_12, ↓e_X9_clearDraft_24, ↓e_X9_clearDraft_27, ↓e_X9_clearDraft_38, ↓e_X9_clearDraft_41, ↓e_X9_clearDraft_45, ↓e_X9_clearDraft_46, ↓e_X9_clearDraft_47, ↓e_X9_clearDraft_53, ↓e_X9_clearDraft_58, c, w, zk_i, zk_r, zk_n, ↓reduceIte]
      exact qq
    | succ n ih =>
      intro k f' hk hf hd
      have hk' : k < 110 := by omega
      have c : (nI k < 110) = True := eq_true (by rw [show (110 : Int32) = nI 110 from by decide, nI_lt_iff (by omega) (by decide)]; exact hk')
      obtain ⟨f2, hf2⟩ : ∃ g : Nat → Nat → Int32, g = set2 f' 133 k (Dz k) := ⟨_, rfl⟩
      have w := wi_k j133 hk' (by decide) (f', t) (Dz k)
      dsimp only at w
      rw [← hf2] at w
      have nx := ih (k + 1) f2 (by omega) (FrN_t hf (by rw [hf2]; exact FrN_3 _ _ _)) (fun j hj => by
        rw [hf2]
        by_cases e : j = k
        · subst e
          rw [set2_s]
        · rw [set2_n (Or.inr e)]
          exact hd j (by omega))
      have cv := cd_v k hk'
      generalize hb1 : inL (nI k).toInt64 18 29 = b1 at cv
      generalize hb2 : inL (nI k).toInt64 66 83 = b2 at cv
      rw [e_X9_clearDraft_2]
      cases b1 with
      | true =>
        rw [if_pos rfl] at cv
        rw [← cv] at w
        simp only [↓e_X9_clearDraft_8, ↓e_X9_clearDraft_12, ↓e_X9_clearDraft_24, ↓e_X9_clearDraft_27, ↓e_X9_clearDraft_38, ↓e_X9_clearDraft_41, ↓e_X9_clearDraft_45, ↓e_X9_clearDraft_46, ↓e_X9_clearDraft_47, ↓e_X9_clearDraft_53, ↓e_X9_clearDraft_58, g9 o9_129, Nat.reduceAdd, c, m_in, hb1, bI_t, i01, w, nI_1, zps_s, zk_i, zk_r, zk_n, ↓reduceIte]
        exact nx
      | false =>
        rw [if_neg (by decide)] at cv
        cases b2 with
        | true =>
          rw [if_pos rfl] at cv
          rw [← cv] at w
          simp only [↓e_X9_clearDraft_8, ↓e_X9_clearDraft_12, ↓e_X9_clearDraft_24, ↓e_X9_clearDraft_27, ↓e_X9_clearDraft_38, ↓e_X9_clearDraft_41, ↓e_X9_clearDraft_45, ↓e_X9_clearDraft_46, ↓e_X9_clearDraft_47, ↓e_X9_clearDraft_53, ↓e_X9_clearDraft_58, g9 o9_129, Nat.reduceAdd, c, m_in, hb1, hb2, bI_t, bI_f, i01, w, nI_1, zps_s, zk_i, zk_r, zk_n, ↓reduceIte]
          exact nx
        | false =>
          rw [if_neg (by decide)] at cv
          rw [← cv] at w
          simp only [↓e_X9_clearDraft_8, ↓e_X9_clearDraft_12, ↓e_X9_clearDraft_24, ↓e_X9_clearDraft_27, ↓e_X9_clearDraft_38, ↓e_X9_clearDraft_41, ↓e_X9_clearDraft_45, ↓e_X9_clearDraft_46, ↓e_X9_clearDraft_47, ↓e_X9_clearDraft_53, ↓e_X9_clearDraft_58, g9 o9_129, Nat.reduceAdd, c, m_in, hb1, hb2, bI_f, w, nI_1, zps_s, zk_i, zk_r, zk_n, ↓reduceIte]
          exact nx
  have start := loop 110 0 f (by omega) (FrN_r f) (fun j hj => absurd hj (Nat.not_lt_zero j))
  rw [nI_0] at start
  simp only [↓c_X9_clearDraft, ↓e_X9_clearDraft_0, ↓e_X9_clearDraft_8, ↓e_X9_clearDraft_12, ↓e_X9_clearDraft_24, ↓e_X9_clearDraft_27, ↓e_X9_clearDraft_38, ↓e_X9_clearDraft_41, ↓e_X9_clearDraft_45, ↓e_X9_clearDraft_46, ↓e_X9_clearDraft_47, ↓e_X9_clearDraft_53, ↓e_X9_clearDraft_58, zk_i, zk_r, zk_n]
  exact start
theorem m_keepDraft (E : zE) (d : Nat) (f : Nat → Nat → Int32) (t : (Nat → Nat → Int64) × Nat) : Hr E d 133 [.ref 129] (f, t) (fun r z' => r = none ∧ z'.2 = t ∧ (∀ a, a ≠ 130 → z'.1 a = f a) ∧ (∀ k, k < 107 → z'.1 130 k = f 133 k) ∧ ∀ k, 107 ≤ k → z'.1 130 k = f 130 k) := by
  unfold Hr
  generalize hQ : (fun (r : Option Value) (h : zH) => ∃ z' : zS, h = HP z' ∧ (r = none ∧ z'.2 = t ∧ (∀ a, a ≠ 130 → z'.1 a = f a) ∧ (∀ k, k < 107 → z'.1 130 k = f 133 k) ∧ ∀ k, 107 ≤ k → z'.1 130 k = f 130 k)) = Q
  have loop : ∀ n k (f' : Nat → Nat → Int32), k + n = 107 → (∀ a, a ≠ 130 → f' a = f a) → (∀ j, j < k → f' 130 j = f 133 j) → (∀ j, k ≤ j → f' 130 j = f 130 j) → Ev E d zm_X9_keepDraft 2 [some (.ref 129), some (.int (nI k))] [] (HP (f', t)) Q := by
    intro n
    induction n with
    | zero =>
      intro k f' hk h1 h2 h3
      have e : k = 107 := by omega
      subst e
      have qq : Q none (HP (f', t)) := by
        rw [← hQ]
        exact ⟨(f', t), rfl, rfl, rfl, h1, h2, h3⟩
      have c : (nI 107 < 107) = False := by decide
      rw [e_X9_keepDraft_2]
      simp only [↓e_X9_keepDraft_8, ↓e_X9_keepDraft_12, ↓e_X9_keepDraft_17, ↓e_X9_keepDraft_19, ↓e_X9_keepDraft_20, ↓e_X9_keepDraft_26, c, zk_i, zk_r, zk_n, ↓reduceIte]
      exact qq
    | succ n ih =>
      intro k f' hk h1 h2 h3
      have c : (nI k < 107) = True := eq_true (by rw [show (107 : Int32) = nI 107 from by decide, nI_lt_iff (by omega) (by decide)]; omega)
      have r := ri_k j133 (show k < 110 by omega) (by decide) E (f', t)
      obtain ⟨f2, hf2⟩ : ∃ g : Nat → Nat → Int32, g = set2 f' 130 k (f' 133 k) := ⟨_, rfl⟩
      have w := wi_k i130 (show k < 1083 by omega) (by decide) (f', t) (f' 133 k)
      dsimp only at w r
      rw [← hf2] at w
      have nx := ih (k + 1) f2 (by omega) (fun a ha => by rw [hf2, set2_a ha]; exact h1 a ha) (fun j hj => by
        rw [hf2]
        by_cases e : j = k
        · subst e
          rw [set2_s, h1 133 (by decide)]
        · rw [set2_n (Or.inr e)]
          exact h2 j (by omega)) (fun j hj => by rw [hf2, set2_n (Or.inr (by omega))]; exact h3 j (by omega))
      rw [e_X9_keepDraft_2]
      simp only [↓e_X9_keepDraft_8, ↓e_X9_keepDraft_12, ↓e_X9_keepDraft_17, ↓e_X9_keepDraft_19, ↓e_X9_keepDraft_20, ↓e_X9_keepDraft_26, g9 o9_129, Nat.reduceAdd, c, r, w, nI_1, zk_i, zk_r, zk_n, ↓reduceIte]
      exact nx
  have start := loop 107 0 f (by omega) (fun _ _ => rfl) (fun j hj => absurd hj (Nat.not_lt_zero j)) (fun _ _ => rfl)
  rw [nI_0] at start
  simp only [↓c_X9_keepDraft, ↓e_X9_keepDraft_0, ↓e_X9_keepDraft_8, ↓e_X9_keepDraft_12, ↓e_X9_keepDraft_17, ↓e_X9_keepDraft_19, ↓e_X9_keepDraft_20, ↓e_X9_keepDraft_26, zk_i, zk_r, zk_n]
  exact start
theorem di_step {D D' : Nat → Int32} {np nc ns np' nc' ns' i i' : Nat} (h : DI D np nc ns) (hS : StepP tx D np nc ns i D' np' nc' ns' i') : DI D' np' nc' ns' := by
  obtain ⟨i1, i2, i3, i4, i5, i6, i7⟩ := h
  obtain ⟨s, e, v, -, hS⟩ := hS
  rcases hS with ⟨hw, hn, a, b, c, -, eD, e1, e2, e3⟩ | ⟨hw, hn, a, b, c, g, o, -, eD, e1, e2, e3⟩ | ⟨hw, hn, m, mask, k, q, -, -, -, eD, e1, e2, e3⟩ | ⟨hw, x, w, k, q, hN, -, -, eD, e1, e2, e3⟩
  · subst eD e1 e2 e3
    unfold dPart
    refine ⟨by omega, i2, i3, by rw [uS], ?_, ?_, fun s h1 h2 => ?_⟩
    · rw [uN (by omega), uN (by omega), uN (by omega), uN (by omega)]
      exact i5
    · rw [uN (by omega), uN (by omega), uN (by omega), uN (by omega)]
      exact i6
    · rw [uN (by omega), uN (by omega), uN (by omega), uN (by omega)]
      exact i7 s h1 h2
  · subst eD e1 e2 e3
    unfold dChild
    refine ⟨i1, by omega, i3, ?_, by rw [uS], ?_, fun s h1 h2 => ?_⟩
    · rw [uN (by omega), uN (by omega), uN (by omega), uN (by omega), uN (by omega), uN (by omega)]
      exact i4
    · rw [uN (by omega), uN (by omega), uN (by omega), uN (by omega), uN (by omega), uN (by omega)]
      exact i6
    · rw [uN (by omega), uN (by omega), uN (by omega), uN (by omega), uN (by omega), uN (by omega)]
      exact i7 s h1 h2
  · subst eD e1 e2 e3
    unfold dScene
    refine ⟨i1, i2, by omega, ?_, ?_, by rw [uS], fun s h1 h2 => ?_⟩
    · rw [uN (by omega), uN (by omega), uN (by omega)]
      exact i4
    · rw [uN (by omega), uN (by omega), uN (by omega)]
      exact i5
    · rw [uN (by omega), uN (by omega), uN (by omega)]
      exact i7 s (by omega) h2
  · subst eD e1 e2 e3
    have hx := hN.2.1
    unfold dWish
    refine ⟨i1, i2, i3, ?_, ?_, ?_, fun s h1 h2 => ?_⟩
    · rw [uN (by omega), uN (by omega), uN (by omega)]
      exact i4
    · rw [uN (by omega), uN (by omega), uN (by omega)]
      exact i5
    · rw [uN (by omega), uN (by omega), uN (by omega)]
      exact i6
    · rw [uN (by omega), uN (by omega), uN (by omega)]
      exact i7 s h1 h2
def DIs (S : Dr) : Prop := DI S.1 S.2.1 S.2.2.1 S.2.2.2
theorem m_readL (E : zE) (d : Nat) {t : (Nat → Nat → Int64) × Nat} : ∀ n c (S S' : Dr) i i' (f : Nat → Nat → Int32), RM f tx nl → D133 f S.1 → DIs S → i ≤ nl → LT tx f i → f 129 8 = -1 → RunP tx n S i S' i' → ∃ f', FrN f f' ∧ D133 f' S'.1 ∧ DIs S' ∧ i' ≤ nl ∧ LT tx f' i' ∧ f' 129 8 = -1 ∧ ∀ Q, Ev E (d + 5) zm_X9_read 15 [some (.ref 129), some (.int (nI c))] [] (HP (f, t)) Q = Ev E (d + 5) zm_X9_read 15 [some (.ref 129), some (.int (nI (c + n)))] [] (HP (f', t)) Q
  | 0, c, S, S', i, i', f, hx, hD, hI, hi, hL, h8, hR => by
    obtain ⟨e1, e2⟩ := hR
    subst e1
    subst e2
    exact ⟨f, FrN_r f, hD, hI, hi, hL, h8, fun Q => rfl⟩
  | n + 1, c, S, S', i, i', f, hx, hD, hI, hi, hL, h8, hR => by
    obtain ⟨S1, i1, hS, hR⟩ := hR
    obtain ⟨r, z1, ⟨⟨x1, x2, x3, x4, x5, x6⟩, x7⟩, kk⟩ := Hr_use (m_itemG E d (t := t) hx hD hI hi hL h8 hS)
    subst x1
    obtain ⟨f1, tt⟩ := z1
    dsimp only at x2 x3 x4 x5 x6
    subst x2
    obtain ⟨f2, y1, y2, y3, y4, y5, y6, k2⟩ := m_readL E d (t := tt) n (c + 1) S1 S' i1 i' f1 (FrN_x x3 hx) x6 (di_step hI hS) x7 x4 x5 hR
    refine ⟨f2, FrN_t x3 y1, y2, y3, y4, y5, y6, fun Q => ?_⟩
    rw [show c + (n + 1) = c + 1 + n by omega, ← k2]
    obtain ⟨s, e, v, hT, -⟩ := hS
    have k6 : f 129 6 = 1 := rk_1 (LT_t hL hT).2.2
    have k0 : (f 129 6 = 0) = False := eq_false (by rw [k6]; decide)
    have g0 := m_isGood E (d + 4) (f, tt)
    dsimp only at g0
    rw [decide_eq_true h8] at g0
    rw [e_X9_read_15]
    simp only [↓e_X9_read_6, ↓e_X9_read_11, ↓e_X9_read_19, ↓e_X9_read_22, ↓e_X9_read_26, ↓e_X9_read_29, ↓e_X9_read_33, ↓e_X9_read_39, ↓e_X9_read_43, ↓e_X9_read_46, ↓e_X9_read_52, ↓e_X9_read_54, ↓e_X9_read_58, g9 o9_129, v9 o9_129, g0, k0, kk, nI_1, bI_t, i01, zps_s, zps_n, zk_i, zk_r, zk_n, ↓reduceIte]
theorem m_readI (E : zE) (d : Nat) {f : Nat → Nat → Int32} {t : (Nat → Nat → Int64) × Nat} (hx : RM f tx nl) : ∃ f', FrN f f' ∧ D133 f' Dz ∧ LT tx f' 0 ∧ f' 129 8 = -1 ∧ ∀ K, Cl E (d + 5) 147 [.ref 129] (HP (f, t)) K = Ev E (d + 5) zm_X9_read 15 [some (.ref 129), some (.int (nI 0))] [] (HP (f', t)) K := by
  obtain ⟨r, z1, ⟨x1, x2, x3, x4, x5⟩, k1⟩ := Hr_use (m_clearDraft E (d + 3) f t)
  subst x1
  obtain ⟨f1, tt⟩ := z1
  dsimp only at x2 x3 x4 x5
  subst x2
  obtain ⟨f2, hf2⟩ : ∃ g : Nat → Nat → Int32, g = set2 f1 129 4 0 := ⟨_, rfl⟩
  have w := fun K => (p9 o9_129).1 (f1, tt) 0 K
  dsimp only at w
  rw [← hf2] at w
  have F2 : FrN f f2 := FrN_t x3 ⟨fun a h1 _ => by rw [hf2, set2_a h1], fun k hk => by rw [hf2, set2_n (Or.inr (by omega))]⟩
  obtain ⟨r, z3, ⟨y1, y2, y3, y4⟩, k3⟩ := Hr_use (m_tokL E (d + 3) (t := tt) (FrN_x F2 hx) (Nat.zero_le nl) (by rw [hf2, set2_s]; rfl))
  subst y1
  obtain ⟨f3, tt⟩ := z3
  dsimp only at y2 y3 y4
  subst y2
  refine ⟨f3, FrN_t F2 (FrN_m y3), D133_c (y3.1 133 (by decide)) (D133_c (by rw [hf2, set2_a (by decide)]) x5), y4, by rw [y3.2 8 (by decide) (by decide) (by decide) (by decide), hf2, set2_n (Or.inr (by decide))]; exact x4, fun K => ?_⟩
  rw [nI_0]
  simp only [↓c_X9_read, ↓e_X9_read_0, ↓e_X9_read_6, ↓e_X9_read_11, ↓e_X9_read_19, ↓e_X9_read_22, ↓e_X9_read_26, ↓e_X9_read_29, ↓e_X9_read_33, ↓e_X9_read_39, ↓e_X9_read_43, ↓e_X9_read_46, ↓e_X9_read_52, ↓e_X9_read_54, ↓e_X9_read_58, g9 o9_129, v9 o9_129, k1, w, k3, zps_n, zk_i, zk_r, zk_n]
theorem sz_di : DIs Sz := by
  refine ⟨by decide, by decide, by decide, by decide, by decide, by decide, fun s _ h2 => ?_⟩
  show Dz (90 + 2 * s + 1) = 0
  unfold Dz
  rw [if_neg (by omega)]
theorem m_readG (E : zE) (d : Nat) {f : Nat → Nat → Int32} {t : (Nat → Nat → Int64) × Nat} (hx : RM f tx nl) {n i' s : Nat} {S' : Dr} {w : Int32} (hR : RunP tx n Sz 0 S' i') (hE : Tok tx i' s s 0 w) : Hr E (d + 5) 147 [.ref 129] (f, t) (fun r z' => r = some (.int (nI n)) ∧ z'.2 = t ∧ (∀ a, a ≠ 129 → a ≠ 130 → a ≠ 133 → z'.1 a = f a) ∧ (∀ k, k < 107 → z'.1 130 k = S'.1 k) ∧ (∀ k, 107 ≤ k → z'.1 130 k = f 130 k) ∧ DIs S' ∧ i' ≤ nl) := by
  obtain ⟨f1, a1, a2, a3, a4, k1⟩ := m_readI E d (t := t) hx
  obtain ⟨f2, b1, b2, b3, b4, b5, b6, k2⟩ := m_readL E d (t := t) n 0 Sz S' 0 i' f1 (FrN_x a1 hx) a2 sz_di (Nat.zero_le nl) a3 a4 hR
  rw [Nat.zero_add] at k2
  obtain ⟨q4, q5, q6⟩ := LT_t b5 hE
  have k0 : (f2 129 6 = 0) = True := eq_true (by
    rcases q6 with ⟨c1, -⟩ | ⟨c1, -⟩
    · exact c1
    · exact absurd c1 (by decide))
  have g0 := m_isGood E (d + 4) (f2, t)
  dsimp only at g0
  rw [decide_eq_true b6] at g0
  obtain ⟨r, z3, ⟨y1, y2, y3, y4, y5⟩, k3⟩ := Hr_use (m_keepDraft E (d + 4) f2 t)
  subst y1
  have F2 := FrN_t a1 b1
  refine Hr_of (z' := z3) (r := some (.int (nI n))) (fun K => ?_) ⟨rfl, y2, fun a h1 h2 h3 => by rw [y3 a h2, F2.1 a h1 h3], fun k hk => by rw [y4 k hk]; exact b2 k (by omega), fun k hk => by rw [y5 k hk, F2.1 130 (by decide) (by decide)], b3, b4⟩
  rw [k1, k2, e_X9_read_15]
  simp only [↓e_X9_read_6, ↓e_X9_read_11, ↓e_X9_read_19, ↓e_X9_read_22, ↓e_X9_read_26, ↓e_X9_read_29, ↓e_X9_read_33, ↓e_X9_read_39, ↓e_X9_read_43, ↓e_X9_read_46, ↓e_X9_read_52, ↓e_X9_read_54, ↓e_X9_read_58, g9 o9_129, v9 o9_129, g0, k0, k3, bI_t, i01, zps_s, zps_n, zk_i, zk_r, zk_n, ↓reduceIte]
theorem m_readF (E : zE) (d : Nat) {f : Nat → Nat → Int32} {t : (Nat → Nat → Int64) × Nat} (hx : RM f tx nl) {n i' s : Nat} {S' : Dr} (hR : RunP tx n Sz 0 S' i') (hF : FailD tx S' i' s) : Hr E (d + 5) 147 [.ref 129] (f, t) (fun r z' => r = some (.int (-10 - nI s)) ∧ z'.2 = t ∧ FrN f z'.1 ∧ s ≤ nl) := by
  have h240 := hx.2.1
  obtain ⟨f1, a1, a2, a3, a4, k1⟩ := m_readI E d (t := t) hx
  obtain ⟨f2, b1, b2, b3, b4, b5, b6, k2⟩ := m_readL E d (t := t) n 0 Sz S' 0 i' f1 (FrN_x a1 hx) a2 sz_di (Nat.zero_le nl) a3 a4 hR
  rw [Nat.zero_add] at k2
  have F2 := FrN_t a1 b1
  obtain ⟨hr, h0, hs⟩ := m_itemF E d (t := t) (FrN_x F2 hx) b2 b3 b4 b5 b6 hF
  obtain ⟨r, z3, ⟨x1, x2, x3, x4⟩, k3⟩ := Hr_use hr
  subst x1
  obtain ⟨f3, tt⟩ := z3
  dsimp only at x2 x3 x4
  subst x2
  have g0 := m_isGood E (d + 4) (f2, tt)
  dsimp only at g0
  rw [decide_eq_true b6] at g0
  have g3 := m_isGood E (d + 4) (f3, tt)
  dsimp only at g3
  rw [decide_eq_false (show ¬ f3 129 8 = -1 by rw [x4]; exact s_nm (by omega))] at g3
  have k0 : (f2 129 6 = 0) = False := eq_false h0
  have en : ∀ K, Ev E (d + 5) zm_X9_read 15 [some (.ref 129), some (.int (nI (n + 1)))] [] (HP (f3, tt)) K = K (some (.int (-10 - nI s))) (HP (f3, tt)) := fun K => by
    rw [e_X9_read_15]
    simp only [↓e_X9_read_6, ↓e_X9_read_11, ↓e_X9_read_19, ↓e_X9_read_22, ↓e_X9_read_26, ↓e_X9_read_29, ↓e_X9_read_33, ↓e_X9_read_39, ↓e_X9_read_43, ↓e_X9_read_46, ↓e_X9_read_52, ↓e_X9_read_54, ↓e_X9_read_58, g9 o9_129, v9 o9_129, g3, x4, bI_f, zps_s, zps_n, zk_i, zk_r, zk_n, ↓reduceIte]
  refine Hr_of (z' := (f3, tt)) (r := some (.int (-10 - nI s))) (fun K => ?_) ⟨rfl, rfl, FrN_t F2 x3, hs⟩
  rw [k1, k2, e_X9_read_15]
  simp only [↓e_X9_read_6, ↓e_X9_read_11, ↓e_X9_read_19, ↓e_X9_read_22, ↓e_X9_read_26, ↓e_X9_read_29, ↓e_X9_read_33, ↓e_X9_read_39, ↓e_X9_read_43, ↓e_X9_read_46, ↓e_X9_read_52, ↓e_X9_read_54, ↓e_X9_read_58, g9 o9_129, v9 o9_129, g0, k0, k3, nI_1, en, bI_t, i01, zps_s, zps_n, zk_i, zk_r, zk_n, ↓reduceIte]
end F14
