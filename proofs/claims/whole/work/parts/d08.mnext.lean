/-! NEXT: the reference, and the operation -/
theorem RD_b {f : Nat → Nat → Int32} {nc np : Nat} {ca bh cm : Nat → Int32} {il : Nat → Nat} (hnc : nc ≤ 6) (hnp : np ≤ 6) (hD : RD f nc np ca bh cm il) {p : Nat} (hp : p < np) (v : Int32) : RD (set2 f 130 (24 + p) v) nc np ca (upd bh p v) cm il := by
  unfold RD
  rw [set2_n (show 130 ≠ 130 ∨ 105 ≠ 24 + p by omega), set2_n (show 130 ≠ 130 ∨ 104 ≠ 24 + p by omega), set2_a (show 134 ≠ 130 by decide)]
  refine ⟨hD.1, hD.2.1, fun q hq => ?_, fun q hq => ?_, hD.2.2.2.2.1, fun c hc => ?_⟩
  · rw [set2_n (show 130 ≠ 130 ∨ 18 + q ≠ 24 + p by omega)]
    exact hD.2.2.1 q hq
  · unfold upd
    by_cases e : q = p
    · subst e
      rw [set2_s, if_pos rfl]
    · rw [set2_n (show 130 ≠ 130 ∨ 24 + q ≠ 24 + p by omega), if_neg e]
      exact hD.2.2.2.1 q hq
  · rw [set2_n (show 130 ≠ 130 ∨ 36 + 5 * c + 4 ≠ 24 + p by omega)]
    exact hD.2.2.2.2.2 c hc
theorem w_with (E : zE) (d : Nat) {nc np : Nat} (hnc : nc ≤ 6) (hnp : np ≤ 6) {ca bh cm : Nat → Int32} {IL : Nat → Nat} (hIL : ∀ c, c < nc → IL c ≤ 19) (hca : ∀ p, p < np → orN (ca p) nc) (hbh : ∀ p, p < np → orN (bh p) nc) {f : Nat → Nat → Int32} {t : (Nat → Nat → Int64) × Nat} (hD : RD f nc np ca bh cm IL) {p c : Nat} (hp : p < np) (hc : c < nc) (hb : bh p = -1) : ∃ f2 f3 : Nat → Nat → Int32, (∀ K, zwi (HP (f, t)) 130 (nI (24 + p)) (nI c) K = K (HP (f2, t))) ∧ (∃ f4 : Nat → Nat → Int32, (∀ K, Cl E (d + 2) 193 [.ref 129] (HP (f2, t)) K = K (some (.long (lN (odC nc np cm ca (upd bh p (nI c)) IL 64)))) (HP (f4, t))) ∧ (∀ K, zwi (HP (f4, t)) 130 (nI (24 + p)) (-1) K = K (HP (f3, t)))) ∧ ∀ a, a ≠ 135 → f3 a = f a := by
  have w1 := wi_k i130 (show 24 + p < 1083 by omega) (by decide) (f, t) (nI c)
  obtain ⟨f1, hf1⟩ : ∃ g : Nat → Nat → Int32, g = set2 f 130 (24 + p) (nI c) := ⟨_, rfl⟩
  dsimp only at w1
  rw [← hf1] at w1
  have hD1 := RD_b hnc hnp hD hp (nI c)
  rw [← hf1] at hD1
  obtain ⟨v, z2, ⟨e2, e3, e4⟩, k⟩ := Hr_use (m_oddsOf E d hnc hnp hIL hca (up_or hbh hc) (t := t) hD1)
  subst e2
  obtain ⟨f2, t2⟩ := z2
  dsimp only at e3 e4
  subst e3
  have w2 := wi_k i130 (show 24 + p < 1083 by omega) (by decide) (f2, t2) (-1)
  refine ⟨f1, set2 f2 130 (24 + p) (-1), w1, ⟨f2, k, w2⟩, fun a ha => ?_⟩
  by_cases e : a = 130
  · subst e
    funext j
    by_cases ej : j = 24 + p
    · subst ej
      rw [set2_s, hD.2.2.2.1 p hp, hb]
    · rw [set2_n (Or.inr ej), e4 130 (by decide), hf1, set2_n (Or.inr ej)]
  · rw [set2_a e, e4 a ha, hf1, set2_a e]
theorem d10 : ∀ p, p < 6 → ∀ c, c < 6 → nI (10 * p + c) / 10 = nI p ∧ nI (10 * p + c) - nI p * 10 = nI c := by decide +kernel
theorem t10 : ((10 : Int32) = 0) = False := by decide
set_option maxRecDepth 100000 in
theorem m_next (E : zE) (d : Nat) {nc np : Nat} (hnc : nc ≤ 6) (hnp : np ≤ 6) {ca bh cm : Nat → Int32} {IL : Nat → Nat} (hIL : ∀ c, c < nc → IL c ≤ 19) (hca : ∀ p, p < np → orN (ca p) nc) (hbh : ∀ p, p < np → orN (bh p) nc) {f : Nat → Nat → Int32} {t : (Nat → Nat → Int64) × Nat} (hlr : ∀ c, c < nc → rg (f 130 (36 + 5 * c + 0)) 1 9) (hD : RD f nc np ca bh cm IL) {W : Nat → Nat → Nat} (hW : W = fun p c => odC nc np cm ca (upd bh p (nI c)) IL 64) {H : Nat → Nat → Int32} (hH : H = fun p c => (f 130 (3 * p + 1) + f 130 (36 + 5 * c + 0) - 1) / f 130 (36 + 5 * c + 0)) {ok : Nat → Nat → Bool} (hok : ok = fun p c => decide (bh p = -1) && !decide (nI c = ca p)) {f0 : Nat → Nat → Int32} (hlay : ∀ K, Cl E (d + 2) 159 [.ref 129] (HP (f0, t)) K = K none (HP (f, t))) : Hr E (d + 3) 197 [.ref 129] (f0, t) (fun v z' => v = some (.int (anN (nxA W H ok nc np (none, odC nc np cm ca bh IL 64)))) ∧ z'.2 = t ∧ ∀ a, a ≠ 135 → z'.1 a = f a) := by
  have n1 : nc < 2 ^ 31 := by omega
  have n2 : np < 2 ^ 31 := by omega
  have hW40 : ∀ p c, W p c < 2 ^ 40 := fun p c => by
    rw [hW]
    have := od_le hnc np cm ca (upd bh p (nI c)) hIL 64
    show odC nc np cm ca (upd bh p (nI c)) IL 64 < 2 ^ 40
    omega
  have vd0 : vdN nc np (none, odC nc np cm ca bh IL 64) := ⟨by
    have := od_le hnc np cm ca bh hIL 64
    show odC nc np cm ca bh IL 64 < 2 ^ 40
    omega, fun a ha => by cases ha⟩
  obtain ⟨s0, hs0⟩ : ∃ s : Option (Nat × Nat) × Nat, s = (none, odC nc np cm ca bh IL 64) := ⟨_, rfl⟩
  rw [← hs0] at vd0
  rw [← hs0]
  have st : ∀ f', (∀ a, a ≠ 135 → f' a = f a) → ∀ K, zri E (HP (f', t)) 130 (nI 104) K = K (nI np) := fun f' hf K => by
    rw [ri_k i130 (by decide) (by decide)]
    show K (f' 130 104) = K (nI np)
    rw [hf 130 (by decide), hD.2.1]
  have sc : ∀ f', (∀ a, a ≠ 135 → f' a = f a) → ∀ K, zri E (HP (f', t)) 130 (nI 105) K = K (nI nc) := fun f' hf K => by
    rw [ri_k i130 (by decide) (by decide)]
    show K (f' 130 105) = K (nI nc)
    rw [hf 130 (by decide), hD.1]
  have hh : ∀ f', (∀ a, a ≠ 135 → f' a = f a) → ∀ p c, p < np → c < nc → ∀ K, Cl E (d + 2) 196 [.ref 129, .int (nI p), .int (nI c)] (HP (f', t)) K = K (some (.int (H p c))) (HP (f', t)) := fun f' hf p c hp hc K => by
    have e := hf 130 (by decide)
    rw [m_hours E (d + 1) (show p < 6 by omega) (show c < 6 by omega) (z := (f', t)) (by
      show ¬ f' 130 (36 + 5 * c + 0) = 0
      rw [e]
      obtain ⟨n, a, b, q⟩ := hlr c hc
      rw [q]
      exact (by decide +kernel : ∀ n, n < 10 → 1 ≤ n → ¬ nI n = 0) n (by omega) a)]
    dsimp only
    rw [e, hH]
  unfold Hr
  generalize hQ : (fun (v : Option Value) (h : zH) => ∃ z' : zS, h = HP z' ∧ (v = some (.int (anN (nxA W H ok nc np s0))) ∧ z'.2 = t ∧ ∀ a, a ≠ 135 → z'.1 a = f a)) = Q
  have loop : ∀ k p (f' : Nat → Nat → Int32) (y5 y6 y7 y8 : Option Value), p + k = np → (∀ a, a ≠ 135 → f' a = f a) → Ev E (d + 3) zm_X9_next 14 [some (.ref 129), some (.long (lN (nxA W H ok nc p s0).2)), none, some (.int (anN (nxA W H ok nc p s0))), some (.int (nI p)), y5, y6, y7, y8] [] (HP (f', t)) Q := by
    intro k
    induction k with
    | zero =>
      intro p f' y5 y6 y7 y8 hpk hf
      have e : p = np := by omega
      subst e
      have q : Q (some (.int (anN (nxA W H ok nc p s0)))) (HP (f', t)) := by
        rw [← hQ]
        exact ⟨(f', t), rfl, rfl, rfl, hf⟩
      have s := st f' hf
      rw [e_X9_next_14]
      simp only [↓e_X9_next_4, ↓e_X9_next_8, ↓e_X9_next_20, ↓e_X9_next_23, ↓e_X9_next_26, ↓e_X9_next_35, ↓e_X9_next_38, ↓e_X9_next_41, ↓e_X9_next_45, ↓e_X9_next_51, ↓e_X9_next_55, ↓e_X9_next_59, ↓e_X9_next_65, ↓e_X9_next_70, ↓e_X9_next_74, ↓e_X9_next_82, ↓e_X9_next_86, ↓e_X9_next_92, ↓e_X9_next_99, ↓e_X9_next_106, ↓e_X9_next_111, ↓e_X9_next_118, ↓e_X9_next_126, ↓e_X9_next_131, ↓e_X9_next_135, ↓e_X9_next_138, ↓e_X9_next_141, ↓e_X9_next_145, ↓e_X9_next_146, ↓e_X9_next_153, ↓e_X9_next_164, ↓e_X9_next_165, ↓e_X9_next_171, ↓e_X9_next_176, ↓e_X9_next_177, ↓e_X9_next_178, ↓e_X9_next_184, ↓e_X9_next_190, g9 o9_129, Nat.reduceAdd, n104, s, nI_lt_iff n2 n2, Nat.lt_irrefl, zk_i, zk_r, zk_l, zk_n, ↓reduceIte]
      exact q
    | succ k ihk =>
      intro p f' y5 y6 y7 y8 hpk hf
      have hp : p < np := by omega
      have vdp := vd_A (H := H) (ok := ok) hW40 vd0 p (by omega)
      have rb := ri_k i130 (show 24 + p < 1083 by omega) (by decide) E
      have rc := ri_k i130 (show 18 + p < 1083 by omega) (by decide) E
      have inner : ∀ k c (f' : Nat → Nat → Int32) (y6 y7 y8 : Option Value), c + k = nc → (∀ a, a ≠ 135 → f' a = f a) → Ev E (d + 3) zm_X9_next 29 [some (.ref 129), some (.long (lN (itr (fun c s => nxS W H ok p c s) c (nxA W H ok nc p s0)).2)), none, some (.int (anN (itr (fun c s => nxS W H ok p c s) c (nxA W H ok nc p s0)))), some (.int (nI p)), some (.int (nI c)), y6, y7, y8] [] (HP (f', t)) Q := by
        intro k
        induction k with
        | zero =>
          intro c f' y6 y7 y8 hck hf
          have e : c = nc := by omega
          subst e
          have nx := ihk (p + 1) f' (some (.int (nI c))) y6 y7 y8 (by omega) hf
          rw [nxA_s] at nx
          unfold nxR at nx
          have s := sc f' hf
          rw [e_X9_next_29]
          simp only [↓e_X9_next_4, ↓e_X9_next_8, ↓e_X9_next_20, ↓e_X9_next_23, ↓e_X9_next_26, ↓e_X9_next_35, ↓e_X9_next_38, ↓e_X9_next_41, ↓e_X9_next_45, ↓e_X9_next_51, ↓e_X9_next_55, ↓e_X9_next_59, ↓e_X9_next_65, ↓e_X9_next_70, ↓e_X9_next_74, ↓e_X9_next_82, ↓e_X9_next_86, ↓e_X9_next_92, ↓e_X9_next_99, ↓e_X9_next_106, ↓e_X9_next_111, ↓e_X9_next_118, ↓e_X9_next_126, ↓e_X9_next_131, ↓e_X9_next_135, ↓e_X9_next_138, ↓e_X9_next_141, ↓e_X9_next_145, ↓e_X9_next_146, ↓e_X9_next_153, ↓e_X9_next_164, ↓e_X9_next_165, ↓e_X9_next_171, ↓e_X9_next_176, ↓e_X9_next_177, ↓e_X9_next_178, ↓e_X9_next_184, ↓e_X9_next_190, g9 o9_129, Nat.reduceAdd, n105, s, nI_lt_iff n1 n1, Nat.lt_irrefl, nI_1, zk_i, zk_r, zk_l, zk_n, ↓reduceIte]
          exact nx
        | succ k ihk2 =>
          intro c f' y6 y7 y8 hck hf
          have hc : c < nc := by omega
          have hD' := RD_c hf hD
          have vd := vd_T (H := H) (ok := ok) hW40 hp vdp c (by omega)
          have eb : f' 130 (24 + p) = bh p := hD'.2.2.2.1 p hp
          have ec : f' 130 (18 + p) = ca p := hD'.2.2.1 p hp
          have s := sc f' hf
          have rb := rb (f', t)
          have rc := rc (f', t)
          by_cases hb : bh p = -1
          · have hb' : (bh p = -1) = True := eq_true hb
            by_cases hq : nI c = ca p
            · have nx := ihk2 (c + 1) f' y6 y7 y8 (by omega) hf
              have e : nxS W H ok p c (itr (fun c s => nxS W H ok p c s) c (nxA W H ok nc p s0)) = itr (fun c s => nxS W H ok p c s) c (nxA W H ok nc p s0) := by
                have : ok p c = false := by rw [hok]; show (decide (bh p = -1) && !decide (nI c = ca p)) = false; rw [decide_eq_true hq]; simp
                show (if (ok p c && _) = true then _ else _) = _
                rw [this, Bool.false_and, if_neg (by decide)]
              rw [nxR_s, e] at nx
              have hq' : (ca p = nI c) = True := eq_true hq.symm
              rw [e_X9_next_29]
              simp only [↓e_X9_next_4, ↓e_X9_next_8, ↓e_X9_next_20, ↓e_X9_next_23, ↓e_X9_next_26, ↓e_X9_next_35, ↓e_X9_next_38, ↓e_X9_next_41, ↓e_X9_next_45, ↓e_X9_next_51, ↓e_X9_next_55, ↓e_X9_next_59, ↓e_X9_next_65, ↓e_X9_next_70, ↓e_X9_next_74, ↓e_X9_next_82, ↓e_X9_next_86, ↓e_X9_next_92, ↓e_X9_next_99, ↓e_X9_next_106, ↓e_X9_next_111, ↓e_X9_next_118, ↓e_X9_next_126, ↓e_X9_next_131, ↓e_X9_next_135, ↓e_X9_next_138, ↓e_X9_next_141, ↓e_X9_next_145, ↓e_X9_next_146, ↓e_X9_next_153, ↓e_X9_next_164, ↓e_X9_next_165, ↓e_X9_next_171, ↓e_X9_next_176, ↓e_X9_next_177, ↓e_X9_next_178, ↓e_X9_next_184, ↓e_X9_next_190, g9 o9_129, Nat.reduceAdd, n105, s, nI_lt_iff (show c < 2 ^ 31 by omega) n1, hc, n24, n18, rb, eb, hb', rc, ec, hq', nI_1, zk_i, zk_r, zk_l, zk_n, ↓reduceIte]
              exact nx
            · obtain ⟨f2, f3, w1, ⟨f4, k1, w2⟩, h3⟩ := w_with E d hnc hnp hIL hca hbh (t := t) hD' hp hc hb
              have hf3 : ∀ a, a ≠ 135 → f3 a = f a := fun a ha => by rw [h3 a ha, hf a ha]
              have hr := hh f3 hf3
              rw [show odC nc np cm ca (upd bh p (nI c)) IL 64 = W p c by rw [hW]] at k1
              have okt : ok p c = true := by rw [hok]; show (decide (bh p = -1) && !decide (nI c = ca p)) = true; rw [decide_eq_true hb, decide_eq_false hq]; rfl
              have hq' : (ca p = nI c) = False := eq_false (fun h => hq h.symm)
              have nx := fun y6 y7 y8 => ihk2 (c + 1) f3 y6 y7 y8 (by omega) hf3
              rw [nxR_s] at nx
              generalize itr (fun c s => nxS W H ok p c s) c (nxA W H ok nc p s0) = s at nx vd ⊢
              have w40 := hW40 p c
              have cg := lN_cg (a := W p c) (b := s.2) (by omega) (by have := vd.1; omega)
              have ce := lN_ce (a := W p c) (b := s.2) (by omega) (by have := vd.1; omega)
              unfold nxS at nx
              rw [okt, Bool.true_and] at nx
              obtain ⟨sa, sm⟩ := s
              unfold btB at nx
              dsimp only at nx cg ce vd ⊢
              rename_i s
              by_cases g : sm < W p c
              · rw [if_pos (by rw [decide_eq_true g, Bool.true_or])] at nx
                have nx := nx (some (.long (lN (W p c)))) none (some (.int 1))
                rw [e_X9_next_29]
                simp only [↓e_X9_next_4, ↓e_X9_next_8, ↓e_X9_next_20, ↓e_X9_next_23, ↓e_X9_next_26, ↓e_X9_next_35, ↓e_X9_next_38, ↓e_X9_next_41, ↓e_X9_next_45, ↓e_X9_next_51, ↓e_X9_next_55, ↓e_X9_next_59, ↓e_X9_next_65, ↓e_X9_next_70, ↓e_X9_next_74, ↓e_X9_next_82, ↓e_X9_next_86, ↓e_X9_next_92, ↓e_X9_next_99, ↓e_X9_next_106, ↓e_X9_next_111, ↓e_X9_next_118, ↓e_X9_next_126, ↓e_X9_next_131, ↓e_X9_next_135, ↓e_X9_next_138, ↓e_X9_next_141, ↓e_X9_next_145, ↓e_X9_next_146, ↓e_X9_next_153, ↓e_X9_next_164, ↓e_X9_next_165, ↓e_X9_next_171, ↓e_X9_next_176, ↓e_X9_next_177, ↓e_X9_next_178, ↓e_X9_next_184, ↓e_X9_next_190, g9 o9_129, v9 o9_129, Nat.reduceAdd, n105, s, nI_lt_iff (show c < 2 ^ 31 by omega) n1, hc, n24, n18, rb, eb, hb', rc, ec, hq', w1, k1, w2, cg, g, n10, i01, zps_s, nI_1, zk_i, zk_r, zk_l, zk_n, ↓reduceIte]
                exact nx
              · rw [decide_eq_false g, Bool.false_or] at nx
                cases sa with
                | none =>
                  dsimp only at nx
                  rw [if_neg (by decide)] at nx
                  have nx := nx (some (.long (lN (W p c)))) none (some (.int 0))
                  have ea : anN (none, sm) = -1 := rfl
                  rw [ea] at nx ⊢
                  rw [e_X9_next_29]
                  simp only [↓e_X9_next_4, ↓e_X9_next_8, ↓e_X9_next_20, ↓e_X9_next_23, ↓e_X9_next_26, ↓e_X9_next_35, ↓e_X9_next_38, ↓e_X9_next_41, ↓e_X9_next_45, ↓e_X9_next_51, ↓e_X9_next_55, ↓e_X9_next_59, ↓e_X9_next_65, ↓e_X9_next_70, ↓e_X9_next_74, ↓e_X9_next_82, ↓e_X9_next_86, ↓e_X9_next_92, ↓e_X9_next_99, ↓e_X9_next_106, ↓e_X9_next_111, ↓e_X9_next_118, ↓e_X9_next_126, ↓e_X9_next_131, ↓e_X9_next_135, ↓e_X9_next_138, ↓e_X9_next_141, ↓e_X9_next_145, ↓e_X9_next_146, ↓e_X9_next_153, ↓e_X9_next_164, ↓e_X9_next_165, ↓e_X9_next_171, ↓e_X9_next_176, ↓e_X9_next_177, ↓e_X9_next_178, ↓e_X9_next_184, ↓e_X9_next_190, g9 o9_129, v9 o9_129, Nat.reduceAdd, n105, s, nI_lt_iff (show c < 2 ^ 31 by omega) n1, hc, n24, n18, rb, eb, hb', rc, ec, hq', w1, k1, w2, cg, g, n10, zps_s, nI_1, zk_i, zk_r, zk_l, zk_n, ↓reduceIte]
                  exact nx
                | some a =>
                  have va := vd.2 a rfl
                  have ea : anN (some a, sm) = nI (10 * a.1 + a.2) := rfl
                  have em := nI_nm (c := 10 * a.1 + a.2) (by omega)
                  obtain ⟨q1, q2⟩ := d10 a.1 (by omega) a.2 (by omega)
                  have hr1 := hr p c hp hc
                  have hr2 := hr a.1 a.2 va.1 va.2
                  dsimp only at nx
                  rw [ea]
                  by_cases g2 : W p c = sm
                  · have g2' : (W p c = sm) = True := eq_true g2
                    by_cases g3 : H p c < H a.1 a.2
                    · rw [if_pos (by rw [decide_eq_true g2, decide_eq_true g3]; rfl)] at nx
                      have nx := nx (some (.long (lN (W p c)))) none (some (.int 1))
                      rw [e_X9_next_29]
                      simp only [↓e_X9_next_4, ↓e_X9_next_8, ↓e_X9_next_20, ↓e_X9_next_23, ↓e_X9_next_26, ↓e_X9_next_35, ↓e_X9_next_38, ↓e_X9_next_41, ↓e_X9_next_45, ↓e_X9_next_51, ↓e_X9_next_55, ↓e_X9_next_59, ↓e_X9_next_65, ↓e_X9_next_70, ↓e_X9_next_74, ↓e_X9_next_82, ↓e_X9_next_86, ↓e_X9_next_92, ↓e_X9_next_99, ↓e_X9_next_106, ↓e_X9_next_111, ↓e_X9_next_118, ↓e_X9_next_126, ↓e_X9_next_131, ↓e_X9_next_135, ↓e_X9_next_138, ↓e_X9_next_141, ↓e_X9_next_145, ↓e_X9_next_146, ↓e_X9_next_153, ↓e_X9_next_164, ↓e_X9_next_165, ↓e_X9_next_171, ↓e_X9_next_176, ↓e_X9_next_177, ↓e_X9_next_178, ↓e_X9_next_184, ↓e_X9_next_190, g9 o9_129, v9 o9_129, Nat.reduceAdd, n105, s, nI_lt_iff (show c < 2 ^ 31 by omega) n1, hc, n24, n18, rb, eb, hb', rc, ec, hq', w1, k1, w2, cg, ce, g, g2', g3, em, hr1, q1, q2, hr2, t10, not_false_eq_true, true_and, n10, i01, zps_s, nI_1, zk_i, zk_r, zk_l, zk_n, ↓reduceIte]
                      exact nx
                    · rw [if_neg (by rw [decide_eq_false g3, Bool.and_false]; decide), ea] at nx
                      have nx := nx (some (.long (lN (W p c)))) none (some (.int 0))
                      rw [e_X9_next_29]
                      simp only [↓e_X9_next_4, ↓e_X9_next_8, ↓e_X9_next_20, ↓e_X9_next_23, ↓e_X9_next_26, ↓e_X9_next_35, ↓e_X9_next_38, ↓e_X9_next_41, ↓e_X9_next_45, ↓e_X9_next_51, ↓e_X9_next_55, ↓e_X9_next_59, ↓e_X9_next_65, ↓e_X9_next_70, ↓e_X9_next_74, ↓e_X9_next_82, ↓e_X9_next_86, ↓e_X9_next_92, ↓e_X9_next_99, ↓e_X9_next_106, ↓e_X9_next_111, ↓e_X9_next_118, ↓e_X9_next_126, ↓e_X9_next_131, ↓e_X9_next_135, ↓e_X9_next_138, ↓e_X9_next_141, ↓e_X9_next_145, ↓e_X9_next_146, ↓e_X9_next_153, ↓e_X9_next_164, ↓e_X9_next_165, ↓e_X9_next_171, ↓e_X9_next_176, ↓e_X9_next_177, ↓e_X9_next_178, ↓e_X9_next_184, ↓e_X9_next_190, g9 o9_129, v9 o9_129, Nat.reduceAdd, n105, s, nI_lt_iff (show c < 2 ^ 31 by omega) n1, hc, n24, n18, rb, eb, hb', rc, ec, hq', w1, k1, w2, cg, ce, g, g2', g3, em, hr1, q1, q2, hr2, t10, not_false_eq_true, true_and, n10, zps_s, nI_1, zk_i, zk_r, zk_l, zk_n, ↓reduceIte]
                      exact nx
                  · rw [if_neg (by rw [decide_eq_false g2, Bool.false_and]; decide), ea] at nx
                    have nx := nx (some (.long (lN (W p c)))) none (some (.int 0))
                    rw [e_X9_next_29]
                    simp only [↓e_X9_next_4, ↓e_X9_next_8, ↓e_X9_next_20, ↓e_X9_next_23, ↓e_X9_next_26, ↓e_X9_next_35, ↓e_X9_next_38, ↓e_X9_next_41, ↓e_X9_next_45, ↓e_X9_next_51, ↓e_X9_next_55, ↓e_X9_next_59, ↓e_X9_next_65, ↓e_X9_next_70, ↓e_X9_next_74, ↓e_X9_next_82, ↓e_X9_next_86, ↓e_X9_next_92, ↓e_X9_next_99, ↓e_X9_next_106, ↓e_X9_next_111, ↓e_X9_next_118, ↓e_X9_next_126, ↓e_X9_next_131, ↓e_X9_next_135, ↓e_X9_next_138, ↓e_X9_next_141, ↓e_X9_next_145, ↓e_X9_next_146, ↓e_X9_next_153, ↓e_X9_next_164, ↓e_X9_next_165, ↓e_X9_next_171, ↓e_X9_next_176, ↓e_X9_next_177, ↓e_X9_next_178, ↓e_X9_next_184, ↓e_X9_next_190, g9 o9_129, v9 o9_129, Nat.reduceAdd, n105, s, nI_lt_iff (show c < 2 ^ 31 by omega) n1, hc, n24, n18, rb, eb, hb', rc, ec, hq', w1, k1, w2, cg, ce, g, g2, em, n10, zps_s, nI_1, zk_i, zk_r, zk_l, zk_n, ↓reduceIte]
                    exact nx
          · have nx := ihk2 (c + 1) f' y6 y7 y8 (by omega) hf
            have e : nxS W H ok p c (itr (fun c s => nxS W H ok p c s) c (nxA W H ok nc p s0)) = itr (fun c s => nxS W H ok p c s) c (nxA W H ok nc p s0) := by
              have : ok p c = false := by rw [hok]; show (decide (bh p = -1) && !decide (nI c = ca p)) = false; rw [decide_eq_false hb]; rfl
              show (if (ok p c && _) = true then _ else _) = _
              rw [this, Bool.false_and, if_neg (by decide)]
            rw [nxR_s, e] at nx
            rw [e_X9_next_29]
            simp only [↓e_X9_next_4, ↓e_X9_next_8, ↓e_X9_next_20, ↓e_X9_next_23, ↓e_X9_next_26, ↓e_X9_next_35, ↓e_X9_next_38, ↓e_X9_next_41, ↓e_X9_next_45, ↓e_X9_next_51, ↓e_X9_next_55, ↓e_X9_next_59, ↓e_X9_next_65, ↓e_X9_next_70, ↓e_X9_next_74, ↓e_X9_next_82, ↓e_X9_next_86, ↓e_X9_next_92, ↓e_X9_next_99, ↓e_X9_next_106, ↓e_X9_next_111, ↓e_X9_next_118, ↓e_X9_next_126, ↓e_X9_next_131, ↓e_X9_next_135, ↓e_X9_next_138, ↓e_X9_next_141, ↓e_X9_next_145, ↓e_X9_next_146, ↓e_X9_next_153, ↓e_X9_next_164, ↓e_X9_next_165, ↓e_X9_next_171, ↓e_X9_next_176, ↓e_X9_next_177, ↓e_X9_next_178, ↓e_X9_next_184, ↓e_X9_next_190, g9 o9_129, Nat.reduceAdd, n105, s, nI_lt_iff (show c < 2 ^ 31 by omega) n1, hc, n24, n18, rb, eb, hb, nI_1, zk_i, zk_r, zk_l, zk_n, ↓reduceIte]
            exact nx
      have start := inner nc 0 f' y6 y7 y8 (by omega) hf
      rw [nI_0] at start
      have s := st f' hf
      rw [e_X9_next_14]
      simp only [↓e_X9_next_4, ↓e_X9_next_8, ↓e_X9_next_20, ↓e_X9_next_23, ↓e_X9_next_26, ↓e_X9_next_35, ↓e_X9_next_38, ↓e_X9_next_41, ↓e_X9_next_45, ↓e_X9_next_51, ↓e_X9_next_55, ↓e_X9_next_59, ↓e_X9_next_65, ↓e_X9_next_70, ↓e_X9_next_74, ↓e_X9_next_82, ↓e_X9_next_86, ↓e_X9_next_92, ↓e_X9_next_99, ↓e_X9_next_106, ↓e_X9_next_111, ↓e_X9_next_118, ↓e_X9_next_126, ↓e_X9_next_131, ↓e_X9_next_135, ↓e_X9_next_138, ↓e_X9_next_141, ↓e_X9_next_145, ↓e_X9_next_146, ↓e_X9_next_153, ↓e_X9_next_164, ↓e_X9_next_165, ↓e_X9_next_171, ↓e_X9_next_176, ↓e_X9_next_177, ↓e_X9_next_178, ↓e_X9_next_184, ↓e_X9_next_190, g9 o9_129, Nat.reduceAdd, n104, s, nI_lt_iff (show p < 2 ^ 31 by omega) n2, hp, zk_i, zk_r, zk_l, zk_n, ↓reduceIte]
      exact start
  obtain ⟨v, z2, ⟨e2, e3, e4⟩, kw⟩ := Hr_use (m_oddsOf E d hnc hnp hIL hca hbh (t := t) hD)
  subst e2
  obtain ⟨f2, t2⟩ := z2
  dsimp only at e3 e4
  subst e3
  have start := loop np 0 f2 none none none none (by omega) e4
  have ez : nxA W H ok nc 0 s0 = (none, odC nc np cm ca bh IL 64) := hs0
  rw [ez, nI_0] at start
  simp only [↓c_X9_next, ↓e_X9_next_0, ↓e_X9_next_4, ↓e_X9_next_8, ↓e_X9_next_20, ↓e_X9_next_23, ↓e_X9_next_26, ↓e_X9_next_35, ↓e_X9_next_38, ↓e_X9_next_41, ↓e_X9_next_45, ↓e_X9_next_51, ↓e_X9_next_55, ↓e_X9_next_59, ↓e_X9_next_65, ↓e_X9_next_70, ↓e_X9_next_74, ↓e_X9_next_82, ↓e_X9_next_86, ↓e_X9_next_92, ↓e_X9_next_99, ↓e_X9_next_106, ↓e_X9_next_111, ↓e_X9_next_118, ↓e_X9_next_126, ↓e_X9_next_131, ↓e_X9_next_135, ↓e_X9_next_138, ↓e_X9_next_141, ↓e_X9_next_145, ↓e_X9_next_146, ↓e_X9_next_153, ↓e_X9_next_164, ↓e_X9_next_165, ↓e_X9_next_171, ↓e_X9_next_176, ↓e_X9_next_177, ↓e_X9_next_178, ↓e_X9_next_184, ↓e_X9_next_190, v9 o9_129, hlay, kw, zps_s, zps_n, zk_i, zk_r, zk_l, zk_n]
  exact start
theorem op_next (E : zE) (d : Nat) {z : zS} (hI : Inv z) : OpI E (d + 6) 104 197 [] z := by
  obtain ⟨⟨np, nc, ns, nl, ny, ch, ea, h⟩, -⟩ := id hI
  obtain ⟨hc, hm, hn⟩ := rt_F h
  have hca : ∀ p, p < np → orN (caR z p) nc := fun p hp => (rt_P h hp).2.2.2.2.2.2.2.2.2.1
  have hbh : ∀ p, p < np → orN (bhR z p) nc := fun p hp => (rt_P h hp).2.2.2.2.2.2.2.2.2.2.1
  have hIL : ∀ c, c < nc → ilR z c ≤ 19 := fun c hc => (q_il h hc).1
  have hlr : ∀ c, c < nc → rg (z.1 130 (36 + 5 * c + 0)) 1 9 := fun c hc => (rt_C h hc).2.2.2.2.2.2.2.2.2.1
  obtain ⟨v1', z1, ⟨e0, e1, e2, e3, hD, hw, h61, h63⟩, k1⟩ := Hr_use (x_ready E d h)
  subst e0
  obtain ⟨v2, z2, ⟨e4, e5, e6⟩, k2⟩ := Hr_use (x_next E d hn.2.1 hn.1 hIL hca hbh (lr := fun c => z.1 130 (36 + 5 * c + 0)) (li := fun p => z.1 130 (3 * p + 1)) hlr (f := z1.1) (t := z1.2) hD hw h61 h63 rfl rfl rfl)
  subst e4
  have r2 : z2.1 130 = z.1 130 := by rw [e6 130 (by decide), e1 130 (by omega)]
  obtain ⟨f4, r4, hR, k5⟩ := q_lay h E (d + 3) (f := z2.1) z2.2 r2
  have f130 : f4 130 = z.1 130 := by rw [r4 130 (by decide), r2]
  obtain ⟨v5, z5, ⟨e7, e8, e9⟩, k6⟩ := Hr_use (m_next E (d + 3) hn.2.1 hn.1 hIL hca hbh (f := f4) (t := z2.2) (fun c hc => by rw [f130]; exact hlr c hc) hR rfl rfl rfl k5)
  rw [f130] at e7
  subst e7
  refine ⟨_, z2, z5, fun K => ?_, k6, Inv_keep (z := z) (fun a ha => by rw [e9 a (by omega), r4 a (by omega), e6 a (by omega), e1 a (by omega)]) (by rw [e8, e5, e2 22 (by decide)]) (by rw [e8, e5, e2 129 (by decide)]) (by rw [e8, e5, e2 129 (by decide)]) hI⟩
  have t1 : ∀ K, Cl E (d + 5) 15 [.ref 58] (HP z1) K = _ := k2
  simp only [↓c_X8_next, ↓e_X8_next_0, ↓e_X8_next_4, ↓e_X8_next_8, ↓e_X8_next_11, ↓e_X8_next_15, ↓e_X8_next_18, g8 o8_0, v1 o1_58, Nat.reduceAdd, k1, t1, zps_s, zps_n, zk_i, zk_r, zk_l, zk_n]
