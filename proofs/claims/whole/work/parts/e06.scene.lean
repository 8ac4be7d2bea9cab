/-! READ: scenes, in the class -/
section RK
variable {tx : Nat → Int32} {nl : Nat}
def ScS (tx : Nat → Int32) (np : Nat) : Nat → Nat → Nat → Nat → Nat → Nat → Prop
  | 0, i, _, m, m', i' => m' = m ∧ StpS tx i i'
  | k + 1, i, l, m, m', i' => ∃ n e, Num tx i l np n e ∧ ScS tx np k e (n + 1) (m ||| 2 ^ n) m' i'
def ScF (tx : Nat → Int32) (np : Nat) : Nat → Bool → Nat → Nat → Nat → Prop
  | 0, b, i, l, s => ∃ e k v, Tok tx i s e k v ∧ (b = true ∨ ¬ k = 3) ∧ ¬ (k = 2 ∧ ∃ n, n ≤ 99 ∧ v = nI n ∧ l ≤ n ∧ n < np)
  | k + 1, _, i, l, s => ∃ n e, Num tx i l np n e ∧ ScF tx np k false e (n + 1) s
theorem or_64 : ∀ m, m < 64 → ∀ n, n < 6 → (nI m ||| ((1 : Int32) <<< (nI n &&& 31))) = nI (m ||| 2 ^ n) ∧ m ||| 2 ^ n < 64 := by decide +kernel
theorem sc_lt {np : Nat} (hnp : np ≤ 6) : ∀ k i l m m' i', m < 64 → ScS tx np k i l m m' i' → m' < 64
  | 0, _, _, _, _, _, hm, h => by rw [h.1]; exact hm
  | k + 1, _, _, m, _, _, hm, ⟨n, e, h1, h2⟩ => sc_lt hnp k _ _ _ _ _ (or_64 m hm n (by have := h1.2.1; omega)).2 h2
theorem set2_2 (f : Nat → Nat → Int32) (o k : Nat) (x y : Int32) : set2 (set2 f o k x) o k y = set2 f o k y := by
  funext a j
  unfold set2
  by_cases h : a = o ∧ j = k
  · rw [if_pos h, if_pos h]
  · rw [if_neg h, if_neg h, if_neg h]
theorem tok_3 {i s e : Nat} {v v' : Int32} (h : Tok tx i s e 3 v) : Tok tx i s e 3 v' := by
  refine ⟨h.1, h.2.1, h.2.2.1, ?_⟩
  rcases h.2.2.2 with h | h | h | h
  · exact Or.inl h
  · exact Or.inr (Or.inl h)
  · obtain ⟨-, -, -, -, -, h | h⟩ := h
    · exact absurd h.2.1 (by decide)
    · exact absurd h.2 (by decide)
  · exact Or.inr (Or.inr (Or.inr h))
theorem i36 : isI 36 7 := rfl
set_option maxRecDepth 100000 in
theorem x_sceneItem (E : zE) (d : Nat) {f : Nat → Nat → Int32} {t : (Nat → Nat → Int64) × Nat} (ht : t.2 = 18) (hx : RX f tx nl) {i s0 np ns : Nat} (hi : i ≤ nl) (h3 : f 24 3 = nI i) (h4 : f 24 4 = nI s0) (hs0 : s0 ≤ nl) (hnp : np ≤ 6) (hp : f 25 0 = nI np) (hns : ns ≤ 7) (hs : f 25 11 = nI ns) : Hr E (d + 4) 47 [.ref 24] (f, t) (fun v z' => z'.2 = t ∧ ((v = some (.int 1) ∧ ∃ m mask k e1 i', ns < 7 ∧ Num tx i 1 21 m e1 ∧ 0 < k ∧ ScS tx np k e1 0 0 mask i' ∧ i' ≤ nl ∧ z'.1 24 3 = nI i' ∧ Fr (set2 (set2 (set2 f 25 11 (nI (ns + 1))) 35 ns (nI m)) 36 ns (nI mask)) z'.1) ∨ (v = some (.int 0) ∧ ∃ s, z'.1 24 4 = nI s ∧ s ≤ nl ∧ GF f z'.1 ∧ ((ns = 7 ∧ s = s0) ∨ (ns < 7 ∧ (NumF tx i 1 21 s ∨ ∃ m e1 k, Num tx i 1 21 m e1 ∧ ScF tx np k true e1 0 s)))))) := by
  have pn : (nI ns < 0) = False := eq_false (nI_pos (by omega))
  have h240 := hx.2.1
  unfold Hr
  generalize hQ : (fun (v : Option Value) (h : zH) => ∃ z' : zS, h = HP z' ∧ (z'.2 = t ∧ ((v = some (.int 1) ∧ ∃ m mask k e1 i', ns < 7 ∧ Num tx i 1 21 m e1 ∧ 0 < k ∧ ScS tx np k e1 0 0 mask i' ∧ i' ≤ nl ∧ z'.1 24 3 = nI i' ∧ Fr (set2 (set2 (set2 f 25 11 (nI (ns + 1))) 35 ns (nI m)) 36 ns (nI mask)) z'.1) ∨ (v = some (.int 0) ∧ ∃ s, z'.1 24 4 = nI s ∧ s ≤ nl ∧ GF f z'.1 ∧ ((ns = 7 ∧ s = s0) ∨ (ns < 7 ∧ (NumF tx i 1 21 s ∨ ∃ m e1 k, Num tx i 1 21 m e1 ∧ ScF tx np k true e1 0 s))))))) = Q
  by_cases q7 : ns < 7
  · have loop : ∀ k c (j l m : Nat) (g f' : Nat → Nat → Int32), c + k = 7 → c ≤ l → l ≤ 6 → (l = 0 ∨ l ≤ np) → m < 64 → RX g tx nl → g 25 0 = nI np → j ≤ nl → f' 24 3 = nI j → Fr (set2 g 36 ns (nI m)) f' → (∀ (f'' : Nat → Nat → Int32) k m' i', (0 < k ∨ 0 < c) → ScS tx np k j l m m' i' → i' ≤ nl → f'' 24 3 = nI i' → Fr (set2 g 36 ns (nI m')) f'' → Q (some (.int 1)) (HP (f'', t))) → (∀ (f'' : Nat → Nat → Int32) k s, ScF tx np k (decide (c = 0)) j l s → s ≤ nl → f'' 24 4 = nI s → GF g f'' → Q (some (.int 0)) (HP (f'', t))) → Ev E (d + 4) zm_X5_sceneItem 64 [some (.ref 24), some (.int (nI ns)), some (.int (nI l)), some (.int (nI c))] [] (HP (f', t)) Q := by
      intro k
      induction k with
      | zero =>
        intro c j l m g f' hck hcl hl6
        omega
      | succ k ihk =>
        intro c j l m g f' hck hcl hl6 hlp hm hxg hpg hj h3' hf good bad
        have hx' : RX f' tx nl := Fr_x hf (RX_w (by decide) (by decide) hxg)
        obtain ⟨v, z1, ⟨e1, e2, e3, s, e, e4, e5, e6, e7, e8⟩, kk⟩ := Hr_use (x_step E (d + 1) (t := t) ht hx' hj h3')
        subst e1
        obtain ⟨f1, t1⟩ := z1
        dsimp only at e2 e3 e4 e7 e8
        subst e2
        have c6 : ((6 : Int32) < nI c) = False := eq_false (by
          rw [show (6 : Int32) = nI 6 from by decide, nI_lt_iff (by decide) (by omega)]
          omega)
        have fr1 := Fr_t hf e3
        by_cases k3 : f1 24 5 = 3
        · have k3' : (f1 24 5 = 3) = True := eq_true k3
          by_cases c0 : 0 < c
          · have qq := good f1 0 m e (Or.inr c0) ⟨rfl, s, f1 24 6, by rw [k3] at e4; exact e4⟩ e6 e7 fr1
            have c0' : ((0 : Int32) < nI c) = True := eq_true (by rw [← nI_0, nI_lt_iff (by decide) (by omega)]; exact c0)
            rw [e_X5_sceneItem_64]
            simp only [↓e_X5_sceneItem_4, ↓e_X5_sceneItem_7, ↓e_X5_sceneItem_12, ↓e_X5_sceneItem_18, ↓e_X5_sceneItem_20, ↓e_X5_sceneItem_24, ↓e_X5_sceneItem_30, ↓e_X5_sceneItem_35, ↓e_X5_sceneItem_38, ↓e_X5_sceneItem_45, ↓e_X5_sceneItem_48, ↓e_X5_sceneItem_50, ↓e_X5_sceneItem_54, ↓e_X5_sceneItem_57, ↓e_X5_sceneItem_60, ↓e_X5_sceneItem_70, ↓e_X5_sceneItem_74, ↓e_X5_sceneItem_78, ↓e_X5_sceneItem_82, ↓e_X5_sceneItem_86, ↓e_X5_sceneItem_90, ↓e_X5_sceneItem_91, ↓e_X5_sceneItem_92, ↓e_X5_sceneItem_98, ↓e_X5_sceneItem_101, ↓e_X5_sceneItem_106, ↓e_X5_sceneItem_109, ↓e_X5_sceneItem_111, ↓e_X5_sceneItem_115, ↓e_X5_sceneItem_118, ↓e_X5_sceneItem_121, ↓e_X5_sceneItem_126, ↓e_X5_sceneItem_129, ↓e_X5_sceneItem_133, ↓e_X5_sceneItem_142, v5 o5_24, g5 o5_24, c6, kk, k3', c0', zps_s, zps_n, or_true, true_and, zk_i, zk_r, zk_n, ↓reduceIte]
            exact qq
          · have qq := bad f1 0 s ⟨e, _, _, e4, Or.inl (decide_eq_true (by omega)), fun h => by rw [k3] at h; exact absurd h.1 (by decide)⟩ e5 e8 (GF_w (by decide) (GF_f fr1))
            have c0' : ((0 : Int32) < nI c) = False := eq_false (by rw [← nI_0, nI_lt_iff (by decide) (by omega)]; exact c0)
            rw [e_X5_sceneItem_64]
            simp only [↓e_X5_sceneItem_4, ↓e_X5_sceneItem_7, ↓e_X5_sceneItem_12, ↓e_X5_sceneItem_18, ↓e_X5_sceneItem_20, ↓e_X5_sceneItem_24, ↓e_X5_sceneItem_30, ↓e_X5_sceneItem_35, ↓e_X5_sceneItem_38, ↓e_X5_sceneItem_45, ↓e_X5_sceneItem_48, ↓e_X5_sceneItem_50, ↓e_X5_sceneItem_54, ↓e_X5_sceneItem_57, ↓e_X5_sceneItem_60, ↓e_X5_sceneItem_70, ↓e_X5_sceneItem_74, ↓e_X5_sceneItem_78, ↓e_X5_sceneItem_82, ↓e_X5_sceneItem_86, ↓e_X5_sceneItem_90, ↓e_X5_sceneItem_91, ↓e_X5_sceneItem_92, ↓e_X5_sceneItem_98, ↓e_X5_sceneItem_101, ↓e_X5_sceneItem_106, ↓e_X5_sceneItem_109, ↓e_X5_sceneItem_111, ↓e_X5_sceneItem_115, ↓e_X5_sceneItem_118, ↓e_X5_sceneItem_121, ↓e_X5_sceneItem_126, ↓e_X5_sceneItem_129, ↓e_X5_sceneItem_133, ↓e_X5_sceneItem_142, v5 o5_24, g5 o5_24, c6, kk, k3', c0', zps_s, zps_n, true_or, true_and, zk_i, zk_r, zk_n, ↓reduceIte]
            exact qq
        · have isn := x_isNumber E (d + 3) (f1, t1) (nI l) (nI np - 1)
          dsimp only at isn
          have p1 : f1 25 0 = nI np := by rw [fr1.1 25 (by decide), set2_a (by decide)]; exact hpg
          rcases nm_tok (lo := l) (hb := np) (by omega) (by omega) e4 with ⟨n, q1, q2, q3, q4⟩ | ⟨q1, q2⟩
          · rw [q1] at isn
            have hn := q4.2.1
            obtain ⟨o1, o2⟩ := or_64 m hm n (by omega)
            have r36 := ri_k i36 q7 (by decide) E (f1, t1)
            have e36 : f1 36 ns = nI m := by rw [fr1.1 36 (by decide), set2_s]
            obtain ⟨f2, hf2⟩ : ∃ g : Nat → Nat → Int32, g = set2 f1 36 ns (nI (m ||| 2 ^ n)) := ⟨_, rfl⟩
            have w := wi_k i36 q7 (by decide) (f1, t1) (nI (m ||| 2 ^ n))
            dsimp only at w
            rw [← hf2] at w
            have e26 : f2 24 6 = nI n := by rw [hf2, set2_a (by decide)]; exact q3
            have fr2 : Fr (set2 g 36 ns (nI (m ||| 2 ^ n))) f2 := by
              have := Fr_w (r := 36) (p := ns) (x := nI (m ||| 2 ^ n)) (by decide) fr1
              rw [set2_2, ← hf2] at this
              exact this
            have nx := ihk (c + 1) e (n + 1) (m ||| 2 ^ n) g f2 (by omega) (by have := q4.1; omega) (by omega) (Or.inr (by omega)) o2 hxg hpg e6 (by rw [hf2, set2_a (by decide)]; exact e7) fr2 (fun f'' k m' i' _ h1 h2 h3 h4 => good f'' (k + 1) m' i' (Or.inl (by omega)) ⟨n, e, q4, h1⟩ h2 h3 h4) (fun f'' k s' h1 h2 h3 h4 => bad f'' (k + 1) s' ⟨n, e, q4, by rw [decide_eq_false (show ¬ c + 1 = 0 by omega)] at h1; exact h1⟩ h2 h3 h4)
            rw [e_X5_sceneItem_64]
            simp only [↓e_X5_sceneItem_4, ↓e_X5_sceneItem_7, ↓e_X5_sceneItem_12, ↓e_X5_sceneItem_18, ↓e_X5_sceneItem_20, ↓e_X5_sceneItem_24, ↓e_X5_sceneItem_30, ↓e_X5_sceneItem_35, ↓e_X5_sceneItem_38, ↓e_X5_sceneItem_45, ↓e_X5_sceneItem_48, ↓e_X5_sceneItem_50, ↓e_X5_sceneItem_54, ↓e_X5_sceneItem_57, ↓e_X5_sceneItem_60, ↓e_X5_sceneItem_70, ↓e_X5_sceneItem_74, ↓e_X5_sceneItem_78, ↓e_X5_sceneItem_82, ↓e_X5_sceneItem_86, ↓e_X5_sceneItem_90, ↓e_X5_sceneItem_91, ↓e_X5_sceneItem_92, ↓e_X5_sceneItem_98, ↓e_X5_sceneItem_101, ↓e_X5_sceneItem_106, ↓e_X5_sceneItem_109, ↓e_X5_sceneItem_111, ↓e_X5_sceneItem_115, ↓e_X5_sceneItem_118, ↓e_X5_sceneItem_121, ↓e_X5_sceneItem_126, ↓e_X5_sceneItem_129, ↓e_X5_sceneItem_133, ↓e_X5_sceneItem_142, v5 o5_24, g5 o5_24, g6 isS_25.1, Nat.reduceAdd, c6, kk, k3, p1, isn, r36, e36, q3, o1, w, e26, nI_1, zps_s, zps_n, bI_t, i01, zk_i, zk_r, zk_n, ↓reduceIte]
            exact nx
          · rw [q1] at isn
            have qq := bad f1 0 s ⟨e, _, _, e4, Or.inr k3, fun h => by
              obtain ⟨h1, n, h2, h3, h4, h5⟩ := h
              have d1 : decide (f1 24 6 < nI l) = false := decide_eq_false (by rw [h3, nm_lo h2 (by omega)]; omega)
              have d2 : decide (nI np - 1 < f1 24 6) = false := decide_eq_false (by rw [h3, nm_hi h2 (by omega)]; omega)
              rw [decide_eq_true h1, d1, d2] at q1
              exact absurd q1 (by decide)⟩ e5 e8 (GF_w (by decide) (GF_f fr1))
            rw [e_X5_sceneItem_64]
            simp only [↓e_X5_sceneItem_4, ↓e_X5_sceneItem_7, ↓e_X5_sceneItem_12, ↓e_X5_sceneItem_18, ↓e_X5_sceneItem_20, ↓e_X5_sceneItem_24, ↓e_X5_sceneItem_30, ↓e_X5_sceneItem_35, ↓e_X5_sceneItem_38, ↓e_X5_sceneItem_45, ↓e_X5_sceneItem_48, ↓e_X5_sceneItem_50, ↓e_X5_sceneItem_54, ↓e_X5_sceneItem_57, ↓e_X5_sceneItem_60, ↓e_X5_sceneItem_70, ↓e_X5_sceneItem_74, ↓e_X5_sceneItem_78, ↓e_X5_sceneItem_82, ↓e_X5_sceneItem_86, ↓e_X5_sceneItem_90, ↓e_X5_sceneItem_91, ↓e_X5_sceneItem_92, ↓e_X5_sceneItem_98, ↓e_X5_sceneItem_101, ↓e_X5_sceneItem_106, ↓e_X5_sceneItem_109, ↓e_X5_sceneItem_111, ↓e_X5_sceneItem_115, ↓e_X5_sceneItem_118, ↓e_X5_sceneItem_121, ↓e_X5_sceneItem_126, ↓e_X5_sceneItem_129, ↓e_X5_sceneItem_133, ↓e_X5_sceneItem_142, v5 o5_24, g5 o5_24, g6 isS_25.1, Nat.reduceAdd, c6, kk, k3, p1, isn, nI_1, zps_s, zps_n, bI_f, true_or, true_and, zk_i, zk_r, zk_n, ↓reduceIte]
            exact qq
    obtain ⟨f1, hf1⟩ : ∃ g : Nat → Nat → Int32, g = set2 f 25 11 (nI (ns + 1)) := ⟨_, rfl⟩
    have w := fun K => (p6 isS_25.1).2.2 (f, t) (nI (ns + 1)) K
    dsimp only at w
    rw [← hf1] at w
    have hx1 : RX f1 tx nl := by rw [hf1]; exact RX_w (by decide) (by decide) hx
    obtain ⟨v, z1, ⟨g1', g2'⟩, k⟩ := Hr_use (x_number E d (t := t) ht hx1 hi (by rw [hf1, set2_a (by decide)]; exact h3) (r := 35) (m := 7) rfl (by decide) q7 (by decide) (lo := 1) (hb := 21) (by decide) (by decide) (lv := 1) (hv := 20) (by decide) (by decide))
    obtain ⟨fz, tz⟩ := z1
    dsimp only at g1' g2'
    subst g1'
    rcases g2' with ⟨ev, n, e, r1, r2, r3, r4⟩ | ⟨ev, s, r1, r2, r3, r4⟩
    · subst ev
      obtain ⟨f2, hf2⟩ : ∃ g : Nat → Nat → Int32, g = set2 fz 36 ns 0 := ⟨_, rfl⟩
      have w2 := wi_k i36 q7 (by decide) (fz, tz) 0
      dsimp only at w2
      rw [← hf2] at w2
      have nx := loop 7 0 e 0 0 (set2 f1 35 ns (nI n)) f2 (by omega) (by omega) (by omega) (Or.inl rfl) (by decide) (RX_w (by decide) (by decide) hx1) (by rw [set2_a (by decide), hf1, set2_n (Or.inr (by decide))]; exact hp) r2 (by rw [hf2, set2_a (by decide)]; exact r3) (by rw [hf2]; exact Fr_w (by decide) r4) (fun f'' k m' i' h0 h1 h2 h3 h4 => by
        rw [← hQ]
        rw [hf1] at h4
        exact ⟨(f'', tz), rfl, rfl, Or.inl ⟨rfl, n, m', k, e, i', q7, r1, by omega, h1, h2, h3, h4⟩⟩) (fun f'' k s h1 h2 h3 h4 => by
        rw [← hQ]
        rw [hf1] at h4
        exact ⟨(f'', tz), rfl, rfl, Or.inr ⟨rfl, s, h3, h2, GF_w (by decide) (GF_w (by decide) h4), Or.inr ⟨q7, Or.inr ⟨n, e, k, r1, h1⟩⟩⟩⟩)
      rw [nI_0] at nx
      simp only [↓c_X5_sceneItem, ↓e_X5_sceneItem_0, ↓e_X5_sceneItem_4, ↓e_X5_sceneItem_7, ↓e_X5_sceneItem_12, ↓e_X5_sceneItem_18, ↓e_X5_sceneItem_20, ↓e_X5_sceneItem_24, ↓e_X5_sceneItem_30, ↓e_X5_sceneItem_35, ↓e_X5_sceneItem_38, ↓e_X5_sceneItem_45, ↓e_X5_sceneItem_48, ↓e_X5_sceneItem_50, ↓e_X5_sceneItem_54, ↓e_X5_sceneItem_57, ↓e_X5_sceneItem_60, ↓e_X5_sceneItem_70, ↓e_X5_sceneItem_74, ↓e_X5_sceneItem_78, ↓e_X5_sceneItem_82, ↓e_X5_sceneItem_86, ↓e_X5_sceneItem_90, ↓e_X5_sceneItem_91, ↓e_X5_sceneItem_92, ↓e_X5_sceneItem_98, ↓e_X5_sceneItem_101, ↓e_X5_sceneItem_106, ↓e_X5_sceneItem_109, ↓e_X5_sceneItem_111, ↓e_X5_sceneItem_115, ↓e_X5_sceneItem_118, ↓e_X5_sceneItem_121, ↓e_X5_sceneItem_126, ↓e_X5_sceneItem_129, ↓e_X5_sceneItem_133, ↓e_X5_sceneItem_142, v5 o5_24, g5 o5_24, g6 isS_25.1, Nat.reduceAdd, hs, pn, show (7 : Int32) = nI 7 from by decide, nI_lt_iff (show ns < 2 ^ 31 by omega) (show 7 < 2 ^ 31 by decide), q7, nI_1, w, k, w2, zps_s, i01, zk_i, zk_r, zk_n, ↓reduceIte]
      exact nx
    · subst ev
      have qq : Q (some (.int 0)) (HP (fz, tz)) := by
        rw [← hQ]
        exact ⟨(fz, tz), rfl, rfl, Or.inr ⟨rfl, s, r3, r2, by rw [hf1] at r4; exact GF_w (by decide) (GF_f r4), Or.inr ⟨q7, Or.inl r1⟩⟩⟩
      simp only [↓c_X5_sceneItem, ↓e_X5_sceneItem_0, ↓e_X5_sceneItem_4, ↓e_X5_sceneItem_7, ↓e_X5_sceneItem_12, ↓e_X5_sceneItem_18, ↓e_X5_sceneItem_20, ↓e_X5_sceneItem_24, ↓e_X5_sceneItem_30, ↓e_X5_sceneItem_35, ↓e_X5_sceneItem_38, ↓e_X5_sceneItem_45, ↓e_X5_sceneItem_48, ↓e_X5_sceneItem_50, ↓e_X5_sceneItem_54, ↓e_X5_sceneItem_57, ↓e_X5_sceneItem_60, ↓e_X5_sceneItem_70, ↓e_X5_sceneItem_74, ↓e_X5_sceneItem_78, ↓e_X5_sceneItem_82, ↓e_X5_sceneItem_86, ↓e_X5_sceneItem_90, ↓e_X5_sceneItem_91, ↓e_X5_sceneItem_92, ↓e_X5_sceneItem_98, ↓e_X5_sceneItem_101, ↓e_X5_sceneItem_106, ↓e_X5_sceneItem_109, ↓e_X5_sceneItem_111, ↓e_X5_sceneItem_115, ↓e_X5_sceneItem_118, ↓e_X5_sceneItem_121, ↓e_X5_sceneItem_126, ↓e_X5_sceneItem_129, ↓e_X5_sceneItem_133, ↓e_X5_sceneItem_142, v5 o5_24, g5 o5_24, g6 isS_25.1, Nat.reduceAdd, hs, pn, show (7 : Int32) = nI 7 from by decide, nI_lt_iff (show ns < 2 ^ 31 by omega) (show 7 < 2 ^ 31 by decide), q7, nI_1, w, k, zps_s, true_or, true_and, zk_i, zk_r, zk_n, ↓reduceIte]
      exact qq
  · have qq : Q (some (.int 0)) (HP (f, t)) := by
      rw [← hQ]
      exact ⟨(f, t), rfl, rfl, Or.inr ⟨rfl, s0, h4, hs0, GF_r f, Or.inl ⟨by omega, rfl⟩⟩⟩
    simp only [↓c_X5_sceneItem, ↓e_X5_sceneItem_0, ↓e_X5_sceneItem_4, ↓e_X5_sceneItem_7, ↓e_X5_sceneItem_12, ↓e_X5_sceneItem_18, ↓e_X5_sceneItem_20, ↓e_X5_sceneItem_24, ↓e_X5_sceneItem_30, ↓e_X5_sceneItem_35, ↓e_X5_sceneItem_38, ↓e_X5_sceneItem_45, ↓e_X5_sceneItem_48, ↓e_X5_sceneItem_50, ↓e_X5_sceneItem_54, ↓e_X5_sceneItem_57, ↓e_X5_sceneItem_60, ↓e_X5_sceneItem_70, ↓e_X5_sceneItem_74, ↓e_X5_sceneItem_78, ↓e_X5_sceneItem_82, ↓e_X5_sceneItem_86, ↓e_X5_sceneItem_90, ↓e_X5_sceneItem_91, ↓e_X5_sceneItem_92, ↓e_X5_sceneItem_98, ↓e_X5_sceneItem_101, ↓e_X5_sceneItem_106, ↓e_X5_sceneItem_109, ↓e_X5_sceneItem_111, ↓e_X5_sceneItem_115, ↓e_X5_sceneItem_118, ↓e_X5_sceneItem_121, ↓e_X5_sceneItem_126, ↓e_X5_sceneItem_129, ↓e_X5_sceneItem_133, ↓e_X5_sceneItem_142, v5 o5_24, g5 o5_24, g6 isS_25.1, Nat.reduceAdd, hs, pn, show (7 : Int32) = nI 7 from by decide, nI_lt_iff (show ns < 2 ^ 31 by omega) (show 7 < 2 ^ 31 by decide), q7, true_or, true_and, zk_i, zk_r, zk_n, ↓reduceIte]
    exact qq
end RK
