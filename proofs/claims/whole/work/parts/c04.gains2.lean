/-! GAINS: the reference; both sides -/
section GB
variable {z : zS} {np nc ns nl ny ch ea : Nat}
theorem m_gainsOne (E : zE) (d : Nat) (h : RT z.1 1 0 np nc ns nl ny ch ea) (r : Int32) {c : Nat} (hc : c < nc) {z0 : zS} (h0 : z0.1 130 = z.1 130) : Hr E (d + 3) 205 [.ref 129, .int r, .int (nI c)] z0 (fun v z' => z'.2 = z0.2 ∧ (∀ a, a ≠ 138 → a ≠ 139 → z'.1 a = z0.1 a) ∧ ∃ b : Bool, v = some (.int (bI b)) ∧ (b = true ↔ gnR (fun x => z.1 130 (66 + x)) nc np r c)) := by
  obtain ⟨hcc, hm, hn⟩ := rt_F h
  have n1 : np < 2 ^ 31 := by omega
  obtain ⟨W, hWd⟩ : ∃ W : Nat → Int32, W = fun x => z.1 130 (66 + x) := ⟨_, rfl⟩
  rw [← hWd]
  have hW : ∀ x, x < 3 * nc → orN (W x) np := fun x hx => by rw [hWd]; exact (q_wish h hx).2
  have tw := m_takesWishes E (d + 2) z0.1 z0.2
  obtain ⟨f1, hf1⟩ : ∃ g : Nat → Nat → Int32, g = itr (mvF 138 0 130 66) 18 z0.1 := ⟨_, rfl⟩
  rw [show ((z0.1, z0.2) : zS) = z0 from rfl, ← hf1] at tw
  have r1 : ∀ a, a ≠ 138 → f1 a = z0.1 a := fun a ha => by rw [hf1, mv_r ha]
  have w1 : ∀ x, x < 18 → f1 138 x = W x := fun x hx => by rw [hf1, m_lotsOf (z := z) z0.1 h0 x hx, hWd]
  -- lots of a row of wishes
  have lay : ∀ (f : Nat → Nat → Int32), f 130 = z.1 130 → ∀ K, Cl E (d + 2) 202 [.ref 129, .int r] (HP (f, z0.2)) K = K none (HP (setR f 139 (llZ (f 138) nc r (f 139)), z0.2)) := fun f hf K => m_layLots E d hn.2.1 (z := (f, z0.2)) (by show f 130 105 = nI nc; rw [hf]; exact hm.2.1) r K
  have rank : ∀ (f : Nat → Nat → Int32), f 130 = z.1 130 → ∀ p K, Cl E (d + 2) 204 [.ref 129, .int (nI c), .int p] (HP (f, z0.2)) K = K (some (.int (rkW W c p))) (HP (f, z0.2)) := fun f hf p K => by
    rw [m_rankOrLast E (d + 1) (show c < 6 by omega) p (f, z0.2) K]
    show K (some (.int (if p = -1 then 3 else rkF (f 130 (66 + 3 * c)) (f 130 (66 + 3 * c + 1)) (f 130 (66 + 3 * c + 2)) p))) _ = _
    rw [hf]
    unfold rkW
    rw [hWd]
    rfl
  obtain ⟨f2, hf2⟩ : ∃ g : Nat → Nat → Int32, g = setR f1 139 (llZ (f1 138) nc r (f1 139)) := ⟨_, rfl⟩
  have r2 : ∀ a, a ≠ 138 → a ≠ 139 → f2 a = z0.1 a := fun a h1 h2 => by rw [hf2, setR_n h2, r1 a h1]
  have g2 : f2 139 c = oZ W nc r c := by
    rw [hf2, setR_s]
    exact ll_c hn.2.1 (fun x hx => w1 x (by omega)) c (by omega)
  have N3 : np * (np + 1) * (np + 1) ≤ 294 := by
    have : np * (np + 1) * (np + 1) ≤ 6 * 7 * 7 := Nat.mul_le_mul (Nat.mul_le_mul hn.1 (by omega)) (by omega)
    omega
  unfold Hr
  generalize hQ : (fun (v : Option Value) (h : zH) => ∃ z' : zS, h = HP z' ∧ (z'.2 = z0.2 ∧ (∀ a, a ≠ 138 → a ≠ 139 → z'.1 a = z0.1 a) ∧ ∃ b : Bool, v = some (.int (bI b)) ∧ (b = true ↔ gnR W nc np r c))) = Q
  have eN : nI np * (nI np + 1) * (nI np + 1) = nI (np * (np + 1) * (np + 1)) := by rw [nI_1, nI_mul, nI_mul]
  have eN' : nI np * nI (np + 1) * nI (np + 1) = nI (np * (np + 1) * (np + 1)) := by rw [nI_mul, nI_mul]
  have loop : ∀ j k (f : Nat → Nat → Int32) (b : Bool) (x7 x8 x9 : Option Value), k + j = np * (np + 1) * (np + 1) → (∀ a, a ≠ 138 → a ≠ 139 → f a = z0.1 a) → (∀ x, x < 3 * nc → ¬ (3 * c ≤ x ∧ x < 3 * c + 3) → f 138 x = W x) → (b = true ↔ ∃ k', k' < k ∧ okR (nI (k' % np)) (nI (k' / np % (np + 1)) - 1) (nI (k' / np / (np + 1)) - 1) ∧ rkW W c (oZ (up3 W c (nI (k' % np)) (nI (k' / np % (np + 1)) - 1) (nI (k' / np / (np + 1)) - 1)) nc r c) < rkW W c (oZ W nc r c)) → Ev E (d + 3) zm_X9_gainsOne 36 [some (.ref 129), some (.int r), some (.int (nI c)), some (.int (nI np)), some (.int (rkW W c (oZ W nc r c))), some (.int (bI b)), some (.int (nI k)), x7, x8, x9] [] (HP (f, z0.2)) Q := by
    intro j
    induction j with
    | zero =>
      intro k f b x7 x8 x9 hk hf hw hb
      have e : k = np * (np + 1) * (np + 1) := by omega
      have q : Q (some (.int (bI b))) (HP (f, z0.2)) := by
        rw [← hQ]
        rw [e] at hb
        exact ⟨(f, z0.2), rfl, rfl, hf, b, rfl, hb⟩
      have el : (nI k < nI (np * (np + 1) * (np + 1))) = False := by
        rw [nI_lt_iff (by omega) (by omega)]
        exact eq_false (by omega)
      rw [e_X9_gainsOne_36]
      simp only [↓e_X9_gainsOne_4, ↓e_X9_gainsOne_7, ↓e_X9_gainsOne_12, ↓e_X9_gainsOne_17, ↓e_X9_gainsOne_23, ↓e_X9_gainsOne_25, ↓e_X9_gainsOne_28, ↓e_X9_gainsOne_50, ↓e_X9_gainsOne_54, ↓e_X9_gainsOne_60, ↓e_X9_gainsOne_64, ↓e_X9_gainsOne_72, ↓e_X9_gainsOne_76, ↓e_X9_gainsOne_87, ↓e_X9_gainsOne_94, ↓e_X9_gainsOne_100, ↓e_X9_gainsOne_106, ↓e_X9_gainsOne_109, ↓e_X9_gainsOne_116, ↓e_X9_gainsOne_120, ↓e_X9_gainsOne_126, ↓e_X9_gainsOne_130, ↓e_X9_gainsOne_138, ↓e_X9_gainsOne_142, ↓e_X9_gainsOne_150, ↓e_X9_gainsOne_155, ↓e_X9_gainsOne_160, ↓e_X9_gainsOne_166, ↓e_X9_gainsOne_168, ↓e_X9_gainsOne_171, ↓e_X9_gainsOne_176, ↓e_X9_gainsOne_180, ↓e_X9_gainsOne_181, ↓e_X9_gainsOne_183, ↓e_X9_gainsOne_189, eN, el, bI_01, true_and, zk_i, zk_r, zk_n, ↓reduceIte]
      exact q
    | succ j ih =>
      intro k f b x7 x8 x9 hkj hf hw hb
      have hk : k < np * (np + 1) * (np + 1) := by omega
      have hnp0 : 0 < np := by
        rcases Nat.eq_zero_or_pos np with e | e
        · subst e
          omega
        · exact e
      have f130 : f 130 = z.1 130 := by rw [hf 130 (by decide) (by decide), h0]
      have el : (nI k < nI (np * (np + 1) * (np + 1))) = True := by
        rw [nI_lt_iff (by omega) (by omega)]
        exact eq_true hk
      have z1 : (nI np = 0) = False := eq_false (nI_ne0 hnp0 (by omega))
      have z2 : (nI (np + 1) = 0) = False := eq_false (nI_ne0 (by omega) (by omega))
      have hkd : k / np ≤ k := Nat.div_le_self _ _
      have d1 : nI k - nI (k / np) * nI np = nI (k % np) := by
        have q := nI_mod (a := k) (b := np) (by omega) (by omega)
        rw [nI_div (by omega) (by omega)] at q
        exact q
      have d0 : nI k / nI np = nI (k / np) := nI_div (by omega) (by omega)
      have d2 : nI (k / np) - nI (k / np / (np + 1)) * nI (np + 1) = nI (k / np % (np + 1)) := by
        have q := nI_mod (a := k / np) (b := np + 1) (by omega) (by omega)
        rw [nI_div (by omega) (by omega)] at q
        exact q
      have d3 : nI (k / np) / nI (np + 1) = nI (k / np / (np + 1)) := nI_div (by omega) (by omega)
      obtain ⟨A, hA⟩ : ∃ A, A = nI (k % np) := ⟨_, rfl⟩
      obtain ⟨B, hB⟩ : ∃ B, B = nI (k / np % (np + 1)) - 1 := ⟨_, rfl⟩
      obtain ⟨D, hD⟩ : ∃ D, D = nI (k / np / (np + 1)) - 1 := ⟨_, rfl⟩
      have skip : ¬ okR A B D → ∀ x7 x8 x9, Ev E (d + 3) zm_X9_gainsOne 36 [some (.ref 129), some (.int r), some (.int (nI c)), some (.int (nI np)), some (.int (rkW W c (oZ W nc r c))), some (.int (bI b)), some (.int (nI (k + 1))), x7, x8, x9] [] (HP (f, z0.2)) Q := fun hno x7 x8 x9 => ih (k + 1) f b x7 x8 x9 (by omega) hf hw (hb.trans ⟨fun ⟨k', h1, h2⟩ => ⟨k', by omega, h2⟩, fun ⟨k', h1, h2⟩ => by
        by_cases e : k' = k
        · subst e
          rw [← hA, ← hB, ← hD] at h2
          exact absurd h2.1 hno
        · exact ⟨k', by omega, h2⟩⟩)
      by_cases c1 : A = B
      · have c1' : (A = B) = True := eq_true c1
        rw [e_X9_gainsOne_36]
        simp only [↓e_X9_gainsOne_4, ↓e_X9_gainsOne_7, ↓e_X9_gainsOne_12, ↓e_X9_gainsOne_17, ↓e_X9_gainsOne_23, ↓e_X9_gainsOne_25, ↓e_X9_gainsOne_28, ↓e_X9_gainsOne_50, ↓e_X9_gainsOne_54, ↓e_X9_gainsOne_60, ↓e_X9_gainsOne_64, ↓e_X9_gainsOne_72, ↓e_X9_gainsOne_76, ↓e_X9_gainsOne_87, ↓e_X9_gainsOne_94, ↓e_X9_gainsOne_100, ↓e_X9_gainsOne_106, ↓e_X9_gainsOne_109, ↓e_X9_gainsOne_116, ↓e_X9_gainsOne_120, ↓e_X9_gainsOne_126, ↓e_X9_gainsOne_130, ↓e_X9_gainsOne_138, ↓e_X9_gainsOne_142, ↓e_X9_gainsOne_150, ↓e_X9_gainsOne_155, ↓e_X9_gainsOne_160, ↓e_X9_gainsOne_166, ↓e_X9_gainsOne_168, ↓e_X9_gainsOne_171, ↓e_X9_gainsOne_176, ↓e_X9_gainsOne_180, ↓e_X9_gainsOne_181, ↓e_X9_gainsOne_183, ↓e_X9_gainsOne_189, eN', el, z1, z2, d0, d1, d2, d3, nI_1, ← hA, ← hB, ← hD, c1', not_false_eq_true, true_and, zk_i, zk_r, zk_n, ↓reduceIte]
        exact skip (fun q => q.1 c1) _ _ _
      · by_cases c2 : A = D
        · have c2' : (A = D) = True := eq_true c2
          rw [e_X9_gainsOne_36]
          simp only [↓e_X9_gainsOne_4, ↓e_X9_gainsOne_7, ↓e_X9_gainsOne_12, ↓e_X9_gainsOne_17, ↓e_X9_gainsOne_23, ↓e_X9_gainsOne_25, ↓e_X9_gainsOne_28, ↓e_X9_gainsOne_50, ↓e_X9_gainsOne_54, ↓e_X9_gainsOne_60, ↓e_X9_gainsOne_64, ↓e_X9_gainsOne_72, ↓e_X9_gainsOne_76, ↓e_X9_gainsOne_87, ↓e_X9_gainsOne_94, ↓e_X9_gainsOne_100, ↓e_X9_gainsOne_106, ↓e_X9_gainsOne_109, ↓e_X9_gainsOne_116, ↓e_X9_gainsOne_120, ↓e_X9_gainsOne_126, ↓e_X9_gainsOne_130, ↓e_X9_gainsOne_138, ↓e_X9_gainsOne_142, ↓e_X9_gainsOne_150, ↓e_X9_gainsOne_155, ↓e_X9_gainsOne_160, ↓e_X9_gainsOne_166, ↓e_X9_gainsOne_168, ↓e_X9_gainsOne_171, ↓e_X9_gainsOne_176, ↓e_X9_gainsOne_180, ↓e_X9_gainsOne_181, ↓e_X9_gainsOne_183, ↓e_X9_gainsOne_189, eN', el, z1, z2, d0, d1, d2, d3, nI_1, ← hA, ← hB, ← hD, c1, c2', not_false_eq_true, true_and, zk_i, zk_r, zk_n, ↓reduceIte]
          exact skip (fun q => q.2.1 c2) _ _ _
        · -- the row is told
          obtain ⟨f3, hf3⟩ : ∃ g : Nat → Nat → Int32, g = setR f 138 (upd (upd (upd (f 138) (3 * c) A) (3 * c + 1) B) (3 * c + 2) D) := ⟨_, rfl⟩
          have r3 : ∀ a, a ≠ 138 → f3 a = f a := fun a ha => by rw [hf3, setR_n ha]
          have e138 : ∀ x, x < 3 * nc → f3 138 x = up3 W c A B D x := fun x hx => by
            rw [hf3, setR_s]
            show up3 (f 138) c A B D x = _
            by_cases e : 3 * c ≤ x ∧ x < 3 * c + 3
            · obtain ⟨u0, u1, u2⟩ := up3_0 (f 138) c A B D
              obtain ⟨v0, v1, v2⟩ := up3_0 W c A B D
              obtain e | e | e : x = 3 * c ∨ x = 3 * c + 1 ∨ x = 3 * c + 2 := by omega
              · rw [e, u0, v0]
              · rw [e, u1, v1]
              · rw [e, u2, v2]
            · rw [up3_n e, up3_n e]
              exact hw x hx e
          have f3_130 : f3 130 = z.1 130 := by rw [r3 130 (by decide), f130]
          have l3 := lay f3 f3_130
          obtain ⟨f4, hf4⟩ : ∃ g : Nat → Nat → Int32, g = setR f3 139 (llZ (f3 138) nc r (f3 139)) := ⟨_, rfl⟩
          rw [← hf4] at l3
          have r4 : ∀ a, a ≠ 138 → a ≠ 139 → f4 a = z0.1 a := fun a h1 h2 => by rw [hf4, setR_n h2, r3 a h1, hf a h1 h2]
          have g4 : f4 139 c = oZ (up3 W c A B D) nc r c := by
            rw [hf4, setR_s]
            exact ll_c hn.2.1 e138 c (by omega)
          have f4_130 : f4 130 = z.1 130 := by rw [r4 130 (by decide) (by decide), h0]
          have k4 := rank f4 f4_130
          have x0 : (3 : Int32) * nI c = nI (3 * c) := nI_mul 3 c
          have x1 : nI (3 * c) + 1 = nI (3 * c + 1) := nI_1 (3 * c)
          have x2 : nI (3 * c) + 2 = nI (3 * c + 2) := nI_add (3 * c) 2
          have hw4 : ∀ x, x < 3 * nc → ¬ (3 * c ≤ x ∧ x < 3 * c + 3) → f4 138 x = W x := fun x hx e => by rw [hf4, setR_n (by decide), e138 x hx, up3_n e]
          have go : okR A B D → ∀ (b' : Bool), (b' = (b || decide (rkW W c (oZ (up3 W c A B D) nc r c) < rkW W c (oZ W nc r c)))) → ∀ x7 x8 x9, Ev E (d + 3) zm_X9_gainsOne 36 [some (.ref 129), some (.int r), some (.int (nI c)), some (.int (nI np)), some (.int (rkW W c (oZ W nc r c))), some (.int (bI b')), some (.int (nI (k + 1))), x7, x8, x9] [] (HP (f4, z0.2)) Q := fun hok b' hb' x7 x8 x9 => ih (k + 1) f4 b' x7 x8 x9 (by omega) r4 hw4 (by
            rw [hb', Bool.or_eq_true, hb, decide_eq_true_iff]
            constructor
            · rintro (⟨k', h1, h2⟩ | q)
              · exact ⟨k', by omega, h2⟩
              · exact ⟨k, by omega, by rw [← hA, ← hB, ← hD]; exact ⟨hok, q⟩⟩
            · rintro ⟨k', h1, h2⟩
              by_cases e : k' = k
              · subst e
                rw [← hA, ← hB, ← hD] at h2
                exact Or.inr h2.2
              · exact Or.inl ⟨k', by omega, h2⟩)
          have fin : okR A B D → Ev E (d + 3) zm_X9_gainsOne 116 [some (.ref 129), some (.int r), some (.int (nI c)), some (.int (nI np)), some (.int (rkW W c (oZ W nc r c))), some (.int (bI b)), some (.int (nI k)), some (.int A), some (.int B), some (.int D)] [] (HP (f, z0.2)) Q := fun hok => by
            cases b with
            | true =>
              have n' := go hok true (by rw [Bool.true_or])
              rw [bI_t] at n'
              rw [e_X9_gainsOne_116]
              simp only [↓e_X9_gainsOne_4, ↓e_X9_gainsOne_7, ↓e_X9_gainsOne_12, ↓e_X9_gainsOne_17, ↓e_X9_gainsOne_23, ↓e_X9_gainsOne_25, ↓e_X9_gainsOne_28, ↓e_X9_gainsOne_50, ↓e_X9_gainsOne_54, ↓e_X9_gainsOne_60, ↓e_X9_gainsOne_64, ↓e_X9_gainsOne_72, ↓e_X9_gainsOne_76, ↓e_X9_gainsOne_87, ↓e_X9_gainsOne_94, ↓e_X9_gainsOne_100, ↓e_X9_gainsOne_106, ↓e_X9_gainsOne_109, ↓e_X9_gainsOne_116, ↓e_X9_gainsOne_120, ↓e_X9_gainsOne_126, ↓e_X9_gainsOne_130, ↓e_X9_gainsOne_138, ↓e_X9_gainsOne_142, ↓e_X9_gainsOne_150, ↓e_X9_gainsOne_155, ↓e_X9_gainsOne_160, ↓e_X9_gainsOne_166, ↓e_X9_gainsOne_168, ↓e_X9_gainsOne_171, ↓e_X9_gainsOne_176, ↓e_X9_gainsOne_180, ↓e_X9_gainsOne_181, ↓e_X9_gainsOne_183, ↓e_X9_gainsOne_189, g9 o9_129, v9 o9_129, Nat.reduceAdd, x0, x1, x2, wi_k i138 (show 3 * c < 18 by omega) (by decide), wi_k i138 (show 3 * c + 1 < 18 by omega) (by decide), wi_k i138 (show 3 * c + 2 < 18 by omega) (by decide), set2_R, setR_s, setR_2, ← hf3, l3, bI_t, i01, zps_n, nI_1, zk_i, zk_r, zk_n, ↓reduceIte]
              exact n' _ _ _
            | false =>
              by_cases q : rkW W c (oZ (up3 W c A B D) nc r c) < rkW W c (oZ W nc r c)
              · have n' := go hok true (by rw [decide_eq_true q]; rfl)
                rw [bI_t] at n'
                rw [e_X9_gainsOne_116]
                simp only [↓e_X9_gainsOne_4, ↓e_X9_gainsOne_7, ↓e_X9_gainsOne_12, ↓e_X9_gainsOne_17, ↓e_X9_gainsOne_23, ↓e_X9_gainsOne_25, ↓e_X9_gainsOne_28, ↓e_X9_gainsOne_50, ↓e_X9_gainsOne_54, ↓e_X9_gainsOne_60, ↓e_X9_gainsOne_64, ↓e_X9_gainsOne_72, ↓e_X9_gainsOne_76, ↓e_X9_gainsOne_87, ↓e_X9_gainsOne_94, ↓e_X9_gainsOne_100, ↓e_X9_gainsOne_106, ↓e_X9_gainsOne_109, ↓e_X9_gainsOne_116, ↓e_X9_gainsOne_120, ↓e_X9_gainsOne_126, ↓e_X9_gainsOne_130, ↓e_X9_gainsOne_138, ↓e_X9_gainsOne_142, ↓e_X9_gainsOne_150, ↓e_X9_gainsOne_155, ↓e_X9_gainsOne_160, ↓e_X9_gainsOne_166, ↓e_X9_gainsOne_168, ↓e_X9_gainsOne_171, ↓e_X9_gainsOne_176, ↓e_X9_gainsOne_180, ↓e_X9_gainsOne_181, ↓e_X9_gainsOne_183, ↓e_X9_gainsOne_189, g9 o9_129, v9 o9_129, Nat.reduceAdd, x0, x1, x2, wi_k i138 (show 3 * c < 18 by omega) (by decide), wi_k i138 (show 3 * c + 1 < 18 by omega) (by decide), wi_k i138 (show 3 * c + 2 < 18 by omega) (by decide), set2_R, setR_s, setR_2, ← hf3, l3, bI_f, ri_k i139 (show c < 6 by omega) (by decide), g4, k4, q, zps_s, zps_n, nI_1, zk_i, zk_r, zk_n, ↓reduceIte]
                exact n' _ _ _
              · have n' := go hok false (by rw [decide_eq_false q]; rfl)
                rw [bI_f] at n'
                rw [e_X9_gainsOne_116]
                simp only [↓e_X9_gainsOne_4, ↓e_X9_gainsOne_7, ↓e_X9_gainsOne_12, ↓e_X9_gainsOne_17, ↓e_X9_gainsOne_23, ↓e_X9_gainsOne_25, ↓e_X9_gainsOne_28, ↓e_X9_gainsOne_50, ↓e_X9_gainsOne_54, ↓e_X9_gainsOne_60, ↓e_X9_gainsOne_64, ↓e_X9_gainsOne_72, ↓e_X9_gainsOne_76, ↓e_X9_gainsOne_87, ↓e_X9_gainsOne_94, ↓e_X9_gainsOne_100, ↓e_X9_gainsOne_106, ↓e_X9_gainsOne_109, ↓e_X9_gainsOne_116, ↓e_X9_gainsOne_120, ↓e_X9_gainsOne_126, ↓e_X9_gainsOne_130, ↓e_X9_gainsOne_138, ↓e_X9_gainsOne_142, ↓e_X9_gainsOne_150, ↓e_X9_gainsOne_155, ↓e_X9_gainsOne_160, ↓e_X9_gainsOne_166, ↓e_X9_gainsOne_168, ↓e_X9_gainsOne_171, ↓e_X9_gainsOne_176, ↓e_X9_gainsOne_180, ↓e_X9_gainsOne_181, ↓e_X9_gainsOne_183, ↓e_X9_gainsOne_189, g9 o9_129, v9 o9_129, Nat.reduceAdd, x0, x1, x2, wi_k i138 (show 3 * c < 18 by omega) (by decide), wi_k i138 (show 3 * c + 1 < 18 by omega) (by decide), wi_k i138 (show 3 * c + 2 < 18 by omega) (by decide), set2_R, setR_s, setR_2, ← hf3, l3, bI_f, ri_k i139 (show c < 6 by omega) (by decide), g4, k4, q, zps_s, zps_n, nI_1, zk_i, zk_r, zk_n, ↓reduceIte]
                exact n' _ _ _
          by_cases c3 : B = -1
          · have c3' : (B = -1) = True := eq_true c3
            by_cases c4 : D = -1
            · have c4' : (D = -1) = True := eq_true c4
              rw [e_X9_gainsOne_36]
              simp only [↓e_X9_gainsOne_4, ↓e_X9_gainsOne_7, ↓e_X9_gainsOne_12, ↓e_X9_gainsOne_17, ↓e_X9_gainsOne_23, ↓e_X9_gainsOne_25, ↓e_X9_gainsOne_28, ↓e_X9_gainsOne_50, ↓e_X9_gainsOne_54, ↓e_X9_gainsOne_60, ↓e_X9_gainsOne_64, ↓e_X9_gainsOne_72, ↓e_X9_gainsOne_76, ↓e_X9_gainsOne_87, ↓e_X9_gainsOne_94, ↓e_X9_gainsOne_100, ↓e_X9_gainsOne_106, ↓e_X9_gainsOne_109, ↓e_X9_gainsOne_120, ↓e_X9_gainsOne_126, ↓e_X9_gainsOne_130, ↓e_X9_gainsOne_138, ↓e_X9_gainsOne_142, ↓e_X9_gainsOne_150, ↓e_X9_gainsOne_155, ↓e_X9_gainsOne_160, ↓e_X9_gainsOne_166, ↓e_X9_gainsOne_168, ↓e_X9_gainsOne_171, ↓e_X9_gainsOne_176, ↓e_X9_gainsOne_180, ↓e_X9_gainsOne_181, ↓e_X9_gainsOne_183, ↓e_X9_gainsOne_189, eN', el, z1, z2, d0, d1, d2, d3, nI_1, ← hA, ← hB, ← hD, c1, c2, c3', c4', not_false_eq_true, true_and, zk_i, zk_r, zk_n, ↓reduceIte]
              exact fin ⟨c1, c2, by rw [if_pos c3]; exact c4⟩
            · rw [e_X9_gainsOne_36]
              simp only [↓e_X9_gainsOne_4, ↓e_X9_gainsOne_7, ↓e_X9_gainsOne_12, ↓e_X9_gainsOne_17, ↓e_X9_gainsOne_23, ↓e_X9_gainsOne_25, ↓e_X9_gainsOne_28, ↓e_X9_gainsOne_50, ↓e_X9_gainsOne_54, ↓e_X9_gainsOne_60, ↓e_X9_gainsOne_64, ↓e_X9_gainsOne_72, ↓e_X9_gainsOne_76, ↓e_X9_gainsOne_87, ↓e_X9_gainsOne_94, ↓e_X9_gainsOne_100, ↓e_X9_gainsOne_106, ↓e_X9_gainsOne_109, ↓e_X9_gainsOne_120, ↓e_X9_gainsOne_126, ↓e_X9_gainsOne_130, ↓e_X9_gainsOne_138, ↓e_X9_gainsOne_142, ↓e_X9_gainsOne_150, ↓e_X9_gainsOne_155, ↓e_X9_gainsOne_160, ↓e_X9_gainsOne_166, ↓e_X9_gainsOne_168, ↓e_X9_gainsOne_171, ↓e_X9_gainsOne_176, ↓e_X9_gainsOne_180, ↓e_X9_gainsOne_181, ↓e_X9_gainsOne_183, ↓e_X9_gainsOne_189, eN', el, z1, z2, d0, d1, d2, d3, nI_1, ← hA, ← hB, ← hD, c1, c2, c3', c4, not_false_eq_true, true_and, zk_i, zk_r, zk_n, ↓reduceIte]
              exact skip (fun q => c4 (by have := q.2.2; rw [if_pos c3] at this; exact this)) _ _ _
          · by_cases c4 : B = D
            · have c4' : (B = D) = True := eq_true c4
              rw [e_X9_gainsOne_36]
              simp only [↓e_X9_gainsOne_4, ↓e_X9_gainsOne_7, ↓e_X9_gainsOne_12, ↓e_X9_gainsOne_17, ↓e_X9_gainsOne_23, ↓e_X9_gainsOne_25, ↓e_X9_gainsOne_28, ↓e_X9_gainsOne_50, ↓e_X9_gainsOne_54, ↓e_X9_gainsOne_60, ↓e_X9_gainsOne_64, ↓e_X9_gainsOne_72, ↓e_X9_gainsOne_76, ↓e_X9_gainsOne_87, ↓e_X9_gainsOne_94, ↓e_X9_gainsOne_100, ↓e_X9_gainsOne_106, ↓e_X9_gainsOne_109, ↓e_X9_gainsOne_120, ↓e_X9_gainsOne_126, ↓e_X9_gainsOne_130, ↓e_X9_gainsOne_138, ↓e_X9_gainsOne_142, ↓e_X9_gainsOne_150, ↓e_X9_gainsOne_155, ↓e_X9_gainsOne_160, ↓e_X9_gainsOne_166, ↓e_X9_gainsOne_168, ↓e_X9_gainsOne_171, ↓e_X9_gainsOne_176, ↓e_X9_gainsOne_180, ↓e_X9_gainsOne_181, ↓e_X9_gainsOne_183, ↓e_X9_gainsOne_189, eN', el, z1, z2, d0, d1, d2, d3, nI_1, ← hA, ← hB, ← hD, c1, c2, c3, c4', not_false_eq_true, true_and, zk_i, zk_r, zk_n, ↓reduceIte]
              exact skip (fun q => by have := q.2.2; rw [if_neg c3] at this; exact this c4) _ _ _
            · rw [e_X9_gainsOne_36]
              simp only [↓e_X9_gainsOne_4, ↓e_X9_gainsOne_7, ↓e_X9_gainsOne_12, ↓e_X9_gainsOne_17, ↓e_X9_gainsOne_23, ↓e_X9_gainsOne_25, ↓e_X9_gainsOne_28, ↓e_X9_gainsOne_50, ↓e_X9_gainsOne_54, ↓e_X9_gainsOne_60, ↓e_X9_gainsOne_64, ↓e_X9_gainsOne_72, ↓e_X9_gainsOne_76, ↓e_X9_gainsOne_87, ↓e_X9_gainsOne_94, ↓e_X9_gainsOne_100, ↓e_X9_gainsOne_106, ↓e_X9_gainsOne_109, ↓e_X9_gainsOne_120, ↓e_X9_gainsOne_126, ↓e_X9_gainsOne_130, ↓e_X9_gainsOne_138, ↓e_X9_gainsOne_142, ↓e_X9_gainsOne_150, ↓e_X9_gainsOne_155, ↓e_X9_gainsOne_160, ↓e_X9_gainsOne_166, ↓e_X9_gainsOne_168, ↓e_X9_gainsOne_171, ↓e_X9_gainsOne_176, ↓e_X9_gainsOne_180, ↓e_X9_gainsOne_181, ↓e_X9_gainsOne_183, ↓e_X9_gainsOne_189, eN', el, z1, z2, d0, d1, d2, d3, nI_1, ← hA, ← hB, ← hD, c1, c2, c3, c4, not_false_eq_true, true_and, zk_i, zk_r, zk_n, ↓reduceIte]
              exact fin ⟨c1, c2, by rw [if_neg c3]; exact c4⟩
  have start := loop (np * (np + 1) * (np + 1)) 0 f2 false none none none (by omega) r2 (fun x hx _ => by rw [hf2, setR_n (by decide)]; exact w1 x (by omega)) ⟨fun q => absurd q (by decide), fun ⟨k', h1, _⟩ => by omega⟩
  rw [nI_0, bI_f] at start
  have f1_130 : f1 130 = z.1 130 := by rw [r1 130 (by decide), h0]
  have f2_130 : f2 130 = z.1 130 := by rw [r2 130 (by decide) (by decide), h0]
  have e104 : z0.1 130 104 = nI np := by rw [h0]; exact hm.1
  have l1 := lay f1 f1_130
  rw [← hf2] at l1
  have k2 := rank f2 f2_130
  simp only [↓c_X9_gainsOne, ↓e_X9_gainsOne_0, ↓e_X9_gainsOne_4, ↓e_X9_gainsOne_7, ↓e_X9_gainsOne_12, ↓e_X9_gainsOne_17, ↓e_X9_gainsOne_23, ↓e_X9_gainsOne_25, ↓e_X9_gainsOne_28, ↓e_X9_gainsOne_50, ↓e_X9_gainsOne_54, ↓e_X9_gainsOne_60, ↓e_X9_gainsOne_64, ↓e_X9_gainsOne_72, ↓e_X9_gainsOne_76, ↓e_X9_gainsOne_87, ↓e_X9_gainsOne_94, ↓e_X9_gainsOne_100, ↓e_X9_gainsOne_106, ↓e_X9_gainsOne_109, ↓e_X9_gainsOne_116, ↓e_X9_gainsOne_120, ↓e_X9_gainsOne_126, ↓e_X9_gainsOne_130, ↓e_X9_gainsOne_138, ↓e_X9_gainsOne_142, ↓e_X9_gainsOne_150, ↓e_X9_gainsOne_155, ↓e_X9_gainsOne_160, ↓e_X9_gainsOne_166, ↓e_X9_gainsOne_168, ↓e_X9_gainsOne_171, ↓e_X9_gainsOne_176, ↓e_X9_gainsOne_180, ↓e_X9_gainsOne_181, ↓e_X9_gainsOne_183, ↓e_X9_gainsOne_189, g9 o9_129, v9 o9_129, Nat.reduceAdd, stL, e104, tw, l1, ri_k i139 (show c < 6 by omega) (by decide), g2, k2, zps_s, zps_n, zk_i, zk_r, zk_n]
  exact start
theorem m_gains (E : zE) (d : Nat) (h : RT z.1 1 0 np nc ns nl ny ch ea) {r : Int32} (hr : inL r.toInt64 0 1 = true) {z0 : zS} (h0 : z0.1 130 = z.1 130) : Hr E (d + 4) 206 [.ref 129, .int r] z0 (fun v z' => z'.2 = z0.2 ∧ (∀ a, a ≠ 138 → a ≠ 139 → z'.1 a = z0.1 a) ∧ ((∃ c, c < nc ∧ v = some (.int (nI c)) ∧ gnR (fun x => z.1 130 (66 + x)) nc np r c ∧ ∀ c', c' < c → ¬ gnR (fun x => z.1 130 (66 + x)) nc np r c') ∨ (v = some (.int (-1)) ∧ ∀ c, c < nc → ¬ gnR (fun x => z.1 130 (66 + x)) nc np r c))) := by
  obtain ⟨hcc, hm, hn⟩ := rt_F h
  unfold Hr
  generalize hQ : (fun (v : Option Value) (h : zH) => ∃ z' : zS, h = HP z' ∧ (z'.2 = z0.2 ∧ (∀ a, a ≠ 138 → a ≠ 139 → z'.1 a = z0.1 a) ∧ ((∃ c, c < nc ∧ v = some (.int (nI c)) ∧ gnR (fun x => z.1 130 (66 + x)) nc np r c ∧ ∀ c', c' < c → ¬ gnR (fun x => z.1 130 (66 + x)) nc np r c') ∨ (v = some (.int (-1)) ∧ ∀ c, c < nc → ¬ gnR (fun x => z.1 130 (66 + x)) nc np r c)))) = Q
  have loop : ∀ k (f : Nat → Nat → Int32) (v : Int32), k ≤ nc → (∀ a, a ≠ 138 → a ≠ 139 → f a = z0.1 a) → ((∃ c, k ≤ c ∧ c < nc ∧ v = nI c ∧ gnR (fun x => z.1 130 (66 + x)) nc np r c ∧ ∀ c', k ≤ c' → c' < c → ¬ gnR (fun x => z.1 130 (66 + x)) nc np r c') ∨ (v = -1 ∧ ∀ c, k ≤ c → c < nc → ¬ gnR (fun x => z.1 130 (66 + x)) nc np r c)) → Ev E (d + 4) zm_X9_gains 30 [some (.ref 129), some (.int r), some (.int v), some (.int (nI k - 1))] [] (HP (f, z0.2)) Q := by
    intro k
    induction k with
    | zero =>
      intro f v _ hf hv
      have q : Q (some (.int v)) (HP (f, z0.2)) := by
        rw [← hQ]
        refine ⟨(f, z0.2), rfl, rfl, hf, ?_⟩
        rcases hv with ⟨c, -, h1, h2, h3, h4⟩ | ⟨h1, h2⟩
        · exact Or.inl ⟨c, h1, by rw [h2], h3, fun c' hc' => h4 c' (Nat.zero_le _) hc'⟩
        · exact Or.inr ⟨by rw [h1], fun c hc => h2 c (Nat.zero_le _) hc⟩
      rw [e_X9_gains_30]
      simp only [↓e_X9_gains_7, ↓e_X9_gains_10, ↓e_X9_gains_17, ↓e_X9_gains_18, ↓e_X9_gains_24, ↓e_X9_gains_27, ↓e_X9_gains_34, ↓e_X9_gains_40, ↓e_X9_gains_43, ↓e_X9_gains_47, ↓e_X9_gains_48, ↓e_X9_gains_55, nIm_lt (show 0 < 2 ^ 31 by decide), zk_i, zk_r, zk_n, ↓reduceIte]
      exact q
    | succ k ih =>
      intro f v hk hf hv
      obtain ⟨v1, z1, ⟨ht1, r1, b, hv1, hb⟩, e1⟩ := Hr_use (m_gainsOne E d h r (show k < nc by omega) (z0 := (f, z0.2)) (by show f 130 = _; rw [hf 130 (by decide) (by decide), h0]))
      subst hv1
      have fr : ∀ a, a ≠ 138 → a ≠ 139 → z1.1 a = z0.1 a := fun a h1 h2 => by rw [r1 a h1 h2]; exact hf a h1 h2
      have ht1' : z1.2 = z0.2 := ht1
      cases b with
      | true =>
        have nx := ih z1.1 (nI k) (by omega) fr (Or.inl ⟨k, Nat.le_refl _, by omega, rfl, hb.mp rfl, fun c' h1 h2 => by omega⟩)
        rw [← ht1'] at nx
        rw [e_X9_gains_30]
        simp only [↓e_X9_gains_7, ↓e_X9_gains_10, ↓e_X9_gains_17, ↓e_X9_gains_18, ↓e_X9_gains_24, ↓e_X9_gains_27, ↓e_X9_gains_34, ↓e_X9_gains_40, ↓e_X9_gains_43, ↓e_X9_gains_47, ↓e_X9_gains_48, ↓e_X9_gains_55, nI_pred, nI_neg (show k < 2 ^ 31 by omega), v9 o9_129, e1, bI_t, i01, m1_add, zps_s, zk_i, zk_r, zk_n, ↓reduceIte]
        exact nx
      | false =>
        have nog : ¬ gnR (fun x => z.1 130 (66 + x)) nc np r k := fun g => by
          have := hb.mpr g
          cases this
        have nx := ih z1.1 v (by omega) fr (by
          rcases hv with ⟨c, h1, h2, h3, h4, h5⟩ | ⟨h1, h2⟩
          · exact Or.inl ⟨c, by omega, h2, h3, h4, fun c' a1 a2 => by
              by_cases e : c' = k
              · subst e
                exact nog
              · exact h5 c' (by omega) a2⟩
          · exact Or.inr ⟨h1, fun c a1 a2 => by
              by_cases e : c = k
              · subst e
                exact nog
              · exact h2 c (by omega) a2⟩)
        rw [← ht1'] at nx
        rw [e_X9_gains_30]
        simp only [↓e_X9_gains_7, ↓e_X9_gains_10, ↓e_X9_gains_17, ↓e_X9_gains_18, ↓e_X9_gains_24, ↓e_X9_gains_27, ↓e_X9_gains_34, ↓e_X9_gains_40, ↓e_X9_gains_43, ↓e_X9_gains_47, ↓e_X9_gains_48, ↓e_X9_gains_55, nI_pred, nI_neg (show k < 2 ^ 31 by omega), v9 o9_129, e1, bI_f, m1_add, zps_s, zk_i, zk_r, zk_n, ↓reduceIte]
        exact nx
  have start := loop nc z0.1 (-1) (Nat.le_refl _) (fun _ _ _ => rfl) (Or.inr ⟨rfl, fun c h1 h2 => by omega⟩)
  have e105 : z0.1 130 105 = nI nc := by rw [h0]; exact hm.2.1
  simp only [↓c_X9_gains, ↓e_X9_gains_0, ↓e_X9_gains_7, ↓e_X9_gains_10, ↓e_X9_gains_17, ↓e_X9_gains_18, ↓e_X9_gains_24, ↓e_X9_gains_27, ↓e_X9_gains_34, ↓e_X9_gains_40, ↓e_X9_gains_43, ↓e_X9_gains_47, ↓e_X9_gains_48, ↓e_X9_gains_55, g9 o9_129, Nat.reduceAdd, stL, m_in, hr, e105, zps_s, bI_0, zk_i, zk_r, zk_n, reduceCtorEq, ↓reduceIte]
  exact start
end GB
theorem op_gains (E : zE) (d : Nat) {z : zS} (hI : Inv z) (r : Int32) : OpI E (d + 5) 107 206 [.int r] z := by
  obtain ⟨⟨np, nc, ns, nl, ny, ch, ea, h⟩, -⟩ := id hI
  obtain ⟨hc, hm, hn⟩ := rt_F h
  cases hr : inL r.toInt64 0 1 with
  | false =>
    refine op_ref hI 0 (-10) (fun K => ?_) (fun z1 K hr' e => ?_)
    · simp only [↓c_X8_gains, ↓e_X8_gains_0, ↓e_X8_gains_4, ↓e_X8_gains_7, ↓e_X8_gains_15, ↓e_X8_gains_16, ↓e_X8_gains_20, ↓e_X8_gains_24, ↓e_X8_gains_27, ↓e_X8_gains_31, ↓e_X8_gains_35, ↓e_X8_gains_38, x_isRule, hr, v8 o8_0, Nat.reduceAdd, x_bad, zps_s, bI_0, zk_i, zk_r, zk_n, ↓reduceIte]
    · simp only [↓c_X9_gains, ↓e_X9_gains_0, ↓e_X9_gains_7, ↓e_X9_gains_10, ↓e_X9_gains_17, ↓e_X9_gains_18, ↓e_X9_gains_24, ↓e_X9_gains_27, ↓e_X9_gains_34, ↓e_X9_gains_40, ↓e_X9_gains_43, ↓e_X9_gains_47, ↓e_X9_gains_48, ↓e_X9_gains_55, v9 o9_129, m_in, hr, zps_s, bI_0, m_r0, zk_i, zk_r, zk_n, ↓reduceIte]
  | true =>
    obtain ⟨W, hWd⟩ : ∃ W : Nat → Int32, W = fun x => z.1 11 x := ⟨_, rfl⟩
    obtain ⟨f, hf, fr, f4, f0, f2, f90, f87⟩ := l_ready h r
    have lp := l_prepare E (d + 3) r z.1 z.2
    rw [← hf] at lp
    have f11 : f 78 11 = nI ns := by
      rw [hf, cp_fr (by simp), set2_a (by decide)]
      exact ((cpS_at (o := 78) (q := 2) (by omega) z.1).2 0 11 (by unfold okS; omega)).trans hc.2.2.1
    have hW : ∀ x, x < 3 * nc → orN (W x) np := fun x hx => by
      rw [hWd]
      show orN (z.1 11 x) np
      rw [(q_wish h hx).1]
      exact (q_wish h hx).2
    have hD : LD f nc np ns r W := ⟨f4, f0, f11, f2, fun x hx => by rw [hWd]; exact f87 x hx⟩
    obtain ⟨v, z1, ⟨ht1, r1, hv⟩, e1⟩ := Hr_use (x_lg E d hn.2.1 hn.1 hn.2.2.1 hW (t := z.2) hD)
    have z1130 : z1.1 130 = z.1 130 := by rw [r1 130 (by decide) (by decide) (by decide), fr 130 (by omega)]
    obtain ⟨v2, z2, ⟨ht2, r2, hv2⟩, e2⟩ := Hr_use (m_gains E (d + 1) h hr (z0 := z1) z1130)
    have eqW : ∀ c, c < nc → (gnR (fun x => z.1 130 (66 + x)) nc np r c ↔ gnC W nc np r c) := fun c hc' => by
      have hW2 : ∀ x, x < 3 * nc → orN ((fun x => z.1 130 (66 + x)) x) np := fun x hx => (q_wish h hx).2
      rw [gn_iff hn.2.1 hn.1 hc' hW2 r]
      have ew : ∀ x, x < 3 * nc → z.1 130 (66 + x) = W x := fun x hx => by rw [hWd]; exact (q_wish h hx).1.symm
      have erk : ∀ p, rkW (fun x => z.1 130 (66 + x)) c p = rkW W c p := fun p => by
        unfold rkW
        dsimp only
        rw [ew (3 * c) (by omega), ew (3 * c + 1) (by omega), ew (3 * c + 2) (by omega)]
      have eo : ∀ p, oZ (up3 (fun x => z.1 130 (66 + x)) c (nI p) (-1) (-1)) nc r c = oZ (up3 W c (nI p) (-1) (-1)) nc r c := fun p => oZ_c hn.2.1 (fun x hx => by
        unfold up3 upd
        dsimp only
        rw [ew x hx]) (by omega)
      have eo2 : oZ (fun x => z.1 130 (66 + x)) nc r c = oZ W nc r c := oZ_c hn.2.1 ew (by omega)
      unfold gnC
      exact ⟨fun ⟨p, a, b⟩ => ⟨p, a, by rw [erk, erk, eo, eo2] at b; exact b⟩, fun ⟨p, a, b⟩ => ⟨p, a, by rw [erk, erk, eo, eo2]; exact b⟩⟩
    have ev : ∃ w, v = some (.int w) ∧ v2 = some (.int w) := by
      rcases hv with ⟨c, h1, h2, h3, h4⟩ | ⟨h1, h2⟩
      · rcases hv2 with ⟨c', k1, k2, k3, k4⟩ | ⟨k1, k2⟩
        · have e : c = c' := by
            rcases Nat.lt_trichotomy c c' with q | q | q
            · exact absurd ((eqW c h1).mpr h3) (k4 c q)
            · exact q
            · exact absurd ((eqW c' k1).mp k3) (h4 c' q)
          subst e
          exact ⟨nI c, h2, k2⟩
        · exact absurd ((eqW c h1).mpr h3) (k2 c h1)
      · rcases hv2 with ⟨c', k1, k2, k3, k4⟩ | ⟨k1, k2⟩
        · exact absurd ((eqW c' k1).mp k3) (h2 c' k1)
        · exact ⟨-1, h1, k1⟩
    obtain ⟨w, ew1, ew2⟩ := ev
    subst ew1
    subst ew2
    refine ⟨w, z1, z2, fun K => ?_, e2, Inv_keep (z := z) (fun a ha => by rw [r2 a (by omega) (by omega), r1 a (by omega) (by omega) (by omega), fr a (by omega)]) (by rw [ht2, ht1]) (by rw [ht2, ht1]) (by rw [ht2, ht1]) hI⟩
    simp only [↓c_X8_gains, ↓e_X8_gains_0, ↓e_X8_gains_4, ↓e_X8_gains_7, ↓e_X8_gains_15, ↓e_X8_gains_16, ↓e_X8_gains_20, ↓e_X8_gains_24, ↓e_X8_gains_27, ↓e_X8_gains_31, ↓e_X8_gains_35, ↓e_X8_gains_38, x_isRule, hr, g8 o8_0, g7 o7_1, v3 o3_76, Nat.reduceAdd, lp, e1, zps_s, zps_n, bI_0, zk_i, zk_r, zk_n, reduceCtorEq, ↓reduceIte]
