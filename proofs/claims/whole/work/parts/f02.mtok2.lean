/-! READ: the token, in the reference -/
section F2
variable {tx : Nat → Int32} {nl : Nat}
def FrM (f f' : Nat → Nat → Int32) : Prop := (∀ a, a ≠ 129 → f' a = f a) ∧ ∀ k, k ≠ 4 → k ≠ 5 → k ≠ 6 → k ≠ 7 → f' 129 k = f 129 k
theorem FrM_r (f : Nat → Nat → Int32) : FrM f f := ⟨fun _ _ => rfl, fun _ _ _ _ _ => rfl⟩
theorem FrM_s {f f' : Nat → Nat → Int32} {k : Nat} (hk : k = 4 ∨ k = 5 ∨ k = 6 ∨ k = 7) (x : Int32) (h : FrM f f') : FrM f (set2 f' 129 k x) := ⟨fun a ha => by rw [set2_a ha]; exact h.1 a ha, fun j h1 h2 h3 h4 => by rw [set2_n (Or.inr (by omega))]; exact h.2 j h1 h2 h3 h4⟩
theorem FrM_x {f f' : Nat → Nat → Int32} (h : FrM f f') (hx : RM f tx nl) : RM f' tx nl := by
  unfold RM
  rw [h.1 130 (by decide)]
  exact hx
def RK (k v k' v' : Int32) : Prop := (k' = k ∧ (k = 2 → v' = v)) ∨ (k = 4 ∧ k' = 2 ∧ v' = 999)
theorem lt2 {a b : Nat} (h : b ≤ a) (ha : a < 2 ^ 31) : (nI a - nI b < 2) = (a < b + 2) := by
  have e : nI a - nI b = nI (a - b) := by
    rw [Int32.sub_eq_iff_eq_add, nI_add, Nat.sub_add_cancel h]
  rw [e, show (2 : Int32) = nI 2 from by decide, nI_lt_iff (by omega) (by decide)]
  exact propext ⟨fun h => by omega, fun h => by omega⟩
def vrN (tx : Nat → Int32) (s j : Nat) : Int32 := if j = s then 0 else if j = s + 1 then v1N tx s else if j = s + 2 then v2N tx s else 999
set_option maxRecDepth 100000 in
theorem m_token (E : zE) (d : Nat) {f : Nat → Nat → Int32} {t : (Nat → Nat → Int64) × Nat} (hx : RM f tx nl) {i s e : Nat} {k v : Int32} (hT : Tok tx i s e k v) (he : e ≤ 241) (h4 : f 129 4 = nI i) : Hr E (d + 1) 137 [.ref 129] (f, t) (fun r z' => r = none ∧ z'.2 = t ∧ FrM f z'.1 ∧ z'.1 129 4 = nI e ∧ z'.1 129 5 = nI s ∧ RK k v (z'.1 129 6) (z'.1 129 7)) := by
  have hle := tok_le hT
  obtain ⟨his, hsp, hns, hT⟩ := hT
  unfold Hr
  generalize hQ : (fun (r : Option Value) (h : zH) => ∃ z' : zS, h = HP z' ∧ (r = none ∧ z'.2 = t ∧ FrM f z'.1 ∧ z'.1 129 4 = nI e ∧ z'.1 129 5 = nI s ∧ RK k v (z'.1 129 6) (z'.1 129 7))) = Q
  have lk : ∀ f', FrM f f' → ∀ j, j < 1000 → ∀ K, Cl E d 136 [.ref 129, .int (nI j)] (HP (f', t)) K = K (some (.int (tx j))) (HP (f', t)) := fun f' hf j hj K => m_look E d (z := (f', t)) (FrM_x hf hx) hj K
  have letters : ∀ n j f' (y : Option Value), j + n = e → s ≤ j → (∀ m, s ≤ m → m < e → ltB (tx m) = true) → ltB (tx e) = false → k = 1 → FrM f f' → f' 129 4 = nI j → f' 129 5 = nI s → f' 129 6 = 1 → Ev E (d + 1) zm_X9_token 74 [some (.ref 129), y] [] (HP (f', t)) Q := by
    intro n
    induction n with
    | zero =>
      intro j f' y hjn hsj hl hle' hk hf h4' h5 h6
      have ej : j = e := by omega
      subst ej
      have qq : Q none (HP (f', t)) := by
        rw [← hQ]
        exact ⟨(f', t), rfl, rfl, rfl, hf, h4', h5, Or.inl ⟨h6.trans hk.symm, fun h => by rw [hk] at h; exact absurd h (by decide)⟩⟩
      have l := lk f' hf j (by omega)
      rw [e_X9_token_74]
      simp only [↓e_X9_token_5, ↓e_X9_token_8, ↓e_X9_token_13, ↓e_X9_token_18, ↓e_X9_token_23, ↓e_X9_token_26, ↓e_X9_token_31, ↓e_X9_token_34, ↓e_X9_token_39, ↓e_X9_token_42, ↓e_X9_token_47, ↓e_X9_token_52, ↓e_X9_token_55, ↓e_X9_token_66, ↓e_X9_token_69, ↓e_X9_token_79, ↓e_X9_token_82, ↓e_X9_token_92, ↓e_X9_token_95, ↓e_X9_token_100, ↓e_X9_token_105, ↓e_X9_token_108, ↓e_X9_token_119, ↓e_X9_token_122, ↓e_X9_token_127, ↓e_X9_token_137, ↓e_X9_token_140, ↓e_X9_token_150, ↓e_X9_token_153, ↓e_X9_token_158, ↓e_X9_token_162, ↓e_X9_token_167, ↓e_X9_token_173, ↓e_X9_token_179, ↓e_X9_token_182, ↓e_X9_token_189, ↓e_X9_token_192, ↓e_X9_token_195, ↓e_X9_token_200, ↓e_X9_token_205, ↓e_X9_token_208, ↓e_X9_token_215, ↓e_X9_token_219, ↓e_X9_token_220, ↓e_X9_token_223, ↓e_X9_token_228, ↓e_X9_token_233, g9 o9_129, v9 o9_129, h4', l, m_in, in_lt, hle', zps_s, bI_f, zk_i, zk_r, zk_n, ↓reduceIte]
      exact qq
    | succ n ih =>
      intro j f' y hjn hsj hl hle' hk hf h4' h5 h6
      obtain ⟨f2, hf2⟩ : ∃ g : Nat → Nat → Int32, g = set2 f' 129 4 (nI (j + 1)) := ⟨_, rfl⟩
      have w := fun K => (p9 o9_129).1 (f', t) (nI (j + 1)) K
      dsimp only at w
      rw [← hf2] at w
      have nx := ih (j + 1) f2 y (by omega) (by omega) hl hle' hk (by rw [hf2]; exact FrM_s (by decide) _ hf) (by rw [hf2, set2_s]) (by rw [hf2, set2_n (Or.inr (by decide))]; exact h5) (by rw [hf2, set2_n (Or.inr (by decide))]; exact h6)
      have l := lk f' hf j (by omega)
      have lj := hl j hsj (by omega)
      rw [e_X9_token_74]
      simp only [↓e_X9_token_5, ↓e_X9_token_8, ↓e_X9_token_13, ↓e_X9_token_18, ↓e_X9_token_23, ↓e_X9_token_26, ↓e_X9_token_31, ↓e_X9_token_34, ↓e_X9_token_39, ↓e_X9_token_42, ↓e_X9_token_47, ↓e_X9_token_52, ↓e_X9_token_55, ↓e_X9_token_66, ↓e_X9_token_69, ↓e_X9_token_79, ↓e_X9_token_82, ↓e_X9_token_92, ↓e_X9_token_95, ↓e_X9_token_100, ↓e_X9_token_105, ↓e_X9_token_108, ↓e_X9_token_119, ↓e_X9_token_122, ↓e_X9_token_127, ↓e_X9_token_137, ↓e_X9_token_140, ↓e_X9_token_150, ↓e_X9_token_153, ↓e_X9_token_158, ↓e_X9_token_162, ↓e_X9_token_167, ↓e_X9_token_173, ↓e_X9_token_179, ↓e_X9_token_182, ↓e_X9_token_189, ↓e_X9_token_192, ↓e_X9_token_195, ↓e_X9_token_200, ↓e_X9_token_205, ↓e_X9_token_208, ↓e_X9_token_215, ↓e_X9_token_219, ↓e_X9_token_220, ↓e_X9_token_223, ↓e_X9_token_228, ↓e_X9_token_233, g9 o9_129, v9 o9_129, h4', l, m_in, in_lt, lj, nI_1, w, zps_s, bI_t, i01, zk_i, zk_r, zk_n, ↓reduceIte]
      exact nx
  have figures : ∀ n j f' (y : Option Value), j + n = e → s ≤ j → (∀ m, s ≤ m → m < e → fgB (tx m) = true) → fgB (tx e) = false → (∀ k' v', k' = 2 → v' = vrN tx s e → RK k v k' v') → FrM f f' → f' 129 4 = nI j → f' 129 5 = nI s → f' 129 6 = 2 → f' 129 7 = vrN tx s j → Ev E (d + 1) zm_X9_token 132 [some (.ref 129), y] [] (HP (f', t)) Q := by
    intro n
    induction n with
    | zero =>
      intro j f' y hjn hsj hl hle' hk hf h4' h5 h6 h7
      have ej : j = e := by omega
      subst ej
      have qq : Q none (HP (f', t)) := by
        rw [← hQ]
        exact ⟨(f', t), rfl, rfl, rfl, hf, h4', h5, hk _ _ h6 h7⟩
      have l := lk f' hf j (by omega)
      rw [e_X9_token_132]
      simp only [↓e_X9_token_5, ↓e_X9_token_8, ↓e_X9_token_13, ↓e_X9_token_18, ↓e_X9_token_23, ↓e_X9_token_26, ↓e_X9_token_31, ↓e_X9_token_34, ↓e_X9_token_39, ↓e_X9_token_42, ↓e_X9_token_47, ↓e_X9_token_52, ↓e_X9_token_55, ↓e_X9_token_66, ↓e_X9_token_69, ↓e_X9_token_79, ↓e_X9_token_82, ↓e_X9_token_92, ↓e_X9_token_95, ↓e_X9_token_100, ↓e_X9_token_105, ↓e_X9_token_108, ↓e_X9_token_119, ↓e_X9_token_122, ↓e_X9_token_127, ↓e_X9_token_137, ↓e_X9_token_140, ↓e_X9_token_150, ↓e_X9_token_153, ↓e_X9_token_158, ↓e_X9_token_162, ↓e_X9_token_167, ↓e_X9_token_173, ↓e_X9_token_179, ↓e_X9_token_182, ↓e_X9_token_189, ↓e_X9_token_192, ↓e_X9_token_195, ↓e_X9_token_200, ↓e_X9_token_205, ↓e_X9_token_208, ↓e_X9_token_215, ↓e_X9_token_219, ↓e_X9_token_220, ↓e_X9_token_223, ↓e_X9_token_228, ↓e_X9_token_233, g9 o9_129, v9 o9_129, h4', l, m_in, in_fg, hle', zps_s, bI_f, zk_i, zk_r, zk_n, ↓reduceIte]
      exact qq
    | succ n ih =>
      intro j f' y hjn hsj hl hle' hk hf h4' h5 h6 h7
      have l := lk f' hf j (by omega)
      have lj := hl j hsj (by omega)
      have go : ∀ v, v = vrN tx s (j + 1) → Ev E (d + 1) zm_X9_token 192 [some (.ref 129), y] [.int v, .ref 129] (HP (f', t)) Q := fun v ev => by
        obtain ⟨f2, hf2⟩ : ∃ g : Nat → Nat → Int32, g = set2 f' 129 7 v := ⟨_, rfl⟩
        have w := fun K => (p9 o9_129).2.2.2.1 (f', t) v K
        dsimp only at w
        rw [← hf2] at w
        have h42 : f2 129 4 = nI j := by rw [hf2, set2_n (Or.inr (by decide))]; exact h4'
        obtain ⟨f3, hf3⟩ : ∃ g : Nat → Nat → Int32, g = set2 f2 129 4 (nI (j + 1)) := ⟨_, rfl⟩
        have w2 := fun K => (p9 o9_129).1 (f2, t) (nI (j + 1)) K
        dsimp only at w2
        rw [← hf3] at w2
        have nx := ih (j + 1) f3 y (by omega) (by omega) hl hle' hk (by rw [hf3, hf2]; exact FrM_s (by decide) _ (FrM_s (by decide) _ hf)) (by rw [hf3, set2_s]) (by rw [hf3, set2_n (Or.inr (by decide)), hf2, set2_n (Or.inr (by decide))]; exact h5) (by rw [hf3, set2_n (Or.inr (by decide)), hf2, set2_n (Or.inr (by decide))]; exact h6) (by rw [hf3, set2_n (Or.inr (by decide)), hf2, set2_s]; exact ev)
        rw [e_X9_token_192]
        simp only [↓e_X9_token_5, ↓e_X9_token_8, ↓e_X9_token_13, ↓e_X9_token_18, ↓e_X9_token_23, ↓e_X9_token_26, ↓e_X9_token_31, ↓e_X9_token_34, ↓e_X9_token_39, ↓e_X9_token_42, ↓e_X9_token_47, ↓e_X9_token_52, ↓e_X9_token_55, ↓e_X9_token_66, ↓e_X9_token_69, ↓e_X9_token_79, ↓e_X9_token_82, ↓e_X9_token_92, ↓e_X9_token_95, ↓e_X9_token_100, ↓e_X9_token_105, ↓e_X9_token_108, ↓e_X9_token_119, ↓e_X9_token_122, ↓e_X9_token_127, ↓e_X9_token_137, ↓e_X9_token_140, ↓e_X9_token_150, ↓e_X9_token_153, ↓e_X9_token_158, ↓e_X9_token_162, ↓e_X9_token_167, ↓e_X9_token_173, ↓e_X9_token_179, ↓e_X9_token_182, ↓e_X9_token_189, ↓e_X9_token_195, ↓e_X9_token_200, ↓e_X9_token_205, ↓e_X9_token_208, ↓e_X9_token_215, ↓e_X9_token_219, ↓e_X9_token_220, ↓e_X9_token_223, ↓e_X9_token_228, ↓e_X9_token_233, g9 o9_129, w, h42, nI_1, w2, zk_i, zk_r, zk_n]
        exact nx
      by_cases q : j < s + 2
      · have g := go (10 * f' 129 7 + tx j - 48) (by
          rw [h7]
          unfold vrN
          by_cases ej : j = s
          · subst ej
            rw [if_pos rfl, if_neg (by omega), if_pos rfl]
            rfl
          · have ej2 : j = s + 1 := by omega
            subst ej2
            rw [if_neg (by omega), if_pos rfl, if_neg (by omega), if_neg (by omega), if_pos (by omega)]
            rfl)
        rw [e_X9_token_132]
        simp only [↓e_X9_token_5, ↓e_X9_token_8, ↓e_X9_token_13, ↓e_X9_token_18, ↓e_X9_token_23, ↓e_X9_token_26, ↓e_X9_token_31, ↓e_X9_token_34, ↓e_X9_token_39, ↓e_X9_token_42, ↓e_X9_token_47, ↓e_X9_token_52, ↓e_X9_token_55, ↓e_X9_token_66, ↓e_X9_token_69, ↓e_X9_token_79, ↓e_X9_token_82, ↓e_X9_token_92, ↓e_X9_token_95, ↓e_X9_token_100, ↓e_X9_token_105, ↓e_X9_token_108, ↓e_X9_token_119, ↓e_X9_token_122, ↓e_X9_token_127, ↓e_X9_token_137, ↓e_X9_token_140, ↓e_X9_token_150, ↓e_X9_token_153, ↓e_X9_token_158, ↓e_X9_token_162, ↓e_X9_token_167, ↓e_X9_token_173, ↓e_X9_token_179, ↓e_X9_token_182, ↓e_X9_token_189, ↓e_X9_token_195, ↓e_X9_token_200, ↓e_X9_token_205, ↓e_X9_token_208, ↓e_X9_token_215, ↓e_X9_token_219, ↓e_X9_token_220, ↓e_X9_token_223, ↓e_X9_token_228, ↓e_X9_token_233, g9 o9_129, v9 o9_129, h4', h5, l, m_in, in_fg, lj, lt2 hsj (show j < 2 ^ 31 by omega), q, zps_s, bI_t, i01, zk_i, zk_r, zk_n, ↓reduceIte]
        exact g
      · have g := go 999 (by
          unfold vrN
          rw [if_neg (by omega), if_neg (by omega), if_neg (by omega)])
        rw [e_X9_token_132]
        simp only [↓e_X9_token_5, ↓e_X9_token_8, ↓e_X9_token_13, ↓e_X9_token_18, ↓e_X9_token_23, ↓e_X9_token_26, ↓e_X9_token_31, ↓e_X9_token_34, ↓e_X9_token_39, ↓e_X9_token_42, ↓e_X9_token_47, ↓e_X9_token_52, ↓e_X9_token_55, ↓e_X9_token_66, ↓e_X9_token_69, ↓e_X9_token_79, ↓e_X9_token_82, ↓e_X9_token_92, ↓e_X9_token_95, ↓e_X9_token_100, ↓e_X9_token_105, ↓e_X9_token_108, ↓e_X9_token_119, ↓e_X9_token_122, ↓e_X9_token_127, ↓e_X9_token_137, ↓e_X9_token_140, ↓e_X9_token_150, ↓e_X9_token_153, ↓e_X9_token_158, ↓e_X9_token_162, ↓e_X9_token_167, ↓e_X9_token_173, ↓e_X9_token_179, ↓e_X9_token_182, ↓e_X9_token_189, ↓e_X9_token_195, ↓e_X9_token_200, ↓e_X9_token_205, ↓e_X9_token_208, ↓e_X9_token_215, ↓e_X9_token_219, ↓e_X9_token_220, ↓e_X9_token_223, ↓e_X9_token_228, ↓e_X9_token_233, g9 o9_129, v9 o9_129, h4', h5, l, m_in, in_fg, lj, lt2 hsj (show j < 2 ^ 31 by omega), q, zps_s, bI_t, i01, zk_i, zk_r, zk_n, ↓reduceIte]
        exact g
  have pos : ∀ j, j < nl → (tx j < 0) = False := fun j hj => eq_false (hx.2.2.1 j hj).2
  have after : ∀ f' (y : Option Value), FrM f f' → f' 129 4 = nI s → Ev E (d + 1) zm_X9_token 26 [some (.ref 129), y] [] (HP (f', t)) Q := fun f' y hf h4' => by
    obtain ⟨f1, hf1⟩ : ∃ g : Nat → Nat → Int32, g = set2 f' 129 5 (nI s) := ⟨_, rfl⟩
    have w := fun K => (p9 o9_129).2.1 (f', t) (nI s) K
    dsimp only at w
    rw [← hf1] at w
    have fr1 : FrM f f1 := by rw [hf1]; exact FrM_s (by decide) _ hf
    have h41 : f1 129 4 = nI s := by rw [hf1, set2_n (Or.inr (by decide))]; exact h4'
    have h51 : f1 129 5 = nI s := by rw [hf1, set2_s]
    have l := lk f1 fr1 s (by omega)
    rcases hT with ⟨c1, c2, c3⟩ | ⟨c1, c2, c3, c4, c5⟩ | ⟨c1, c2, c3, c4, c5, c6⟩ | ⟨c1, c2, c3, c4, c5⟩
    · subst c2
      obtain ⟨f2, hf2⟩ : ∃ g : Nat → Nat → Int32, g = set2 f1 129 6 0 := ⟨_, rfl⟩
      have w2 := fun K => (p9 o9_129).2.2.1 (f1, t) 0 K
      dsimp only at w2
      rw [← hf2] at w2
      have qq : Q none (HP (f2, t)) := by
        rw [← hQ]
        refine ⟨(f2, t), rfl, rfl, rfl, by rw [hf2]; exact FrM_s (by decide) _ fr1, by show f2 129 4 = _; rw [hf2, set2_n (Or.inr (by decide))]; exact h41, by show f2 129 5 = _; rw [hf2, set2_n (Or.inr (by decide))]; exact h51, Or.inl ⟨by show f2 129 6 = _; rw [hf2, set2_s, c3], fun h => by rw [c3] at h; exact absurd h (by decide)⟩⟩
      have neg : ((-1 : Int32) < 0) = True := by decide
      rw [c1] at l
      rw [e_X9_token_26]
      simp only [↓e_X9_token_5, ↓e_X9_token_8, ↓e_X9_token_13, ↓e_X9_token_18, ↓e_X9_token_23, ↓e_X9_token_31, ↓e_X9_token_34, ↓e_X9_token_39, ↓e_X9_token_42, ↓e_X9_token_47, ↓e_X9_token_52, ↓e_X9_token_55, ↓e_X9_token_66, ↓e_X9_token_69, ↓e_X9_token_79, ↓e_X9_token_82, ↓e_X9_token_92, ↓e_X9_token_95, ↓e_X9_token_100, ↓e_X9_token_105, ↓e_X9_token_108, ↓e_X9_token_119, ↓e_X9_token_122, ↓e_X9_token_127, ↓e_X9_token_137, ↓e_X9_token_140, ↓e_X9_token_150, ↓e_X9_token_153, ↓e_X9_token_158, ↓e_X9_token_162, ↓e_X9_token_167, ↓e_X9_token_173, ↓e_X9_token_179, ↓e_X9_token_182, ↓e_X9_token_189, ↓e_X9_token_195, ↓e_X9_token_200, ↓e_X9_token_205, ↓e_X9_token_208, ↓e_X9_token_215, ↓e_X9_token_219, ↓e_X9_token_220, ↓e_X9_token_223, ↓e_X9_token_228, ↓e_X9_token_233, g9 o9_129, v9 o9_129, h4', w, h41, l, neg, w2, zps_s, zk_i, zk_r, zk_n, ↓reduceIte]
      exact qq
    · have hs : s < nl := Classical.byContradiction (fun h => c1 (hx.2.2.2 s (by omega)))
      have ps := pos s hs
      obtain ⟨f2, hf2⟩ : ∃ g : Nat → Nat → Int32, g = set2 f1 129 6 1 := ⟨_, rfl⟩
      have w2 := fun K => (p9 o9_129).2.2.1 (f1, t) 1 K
      dsimp only at w2
      rw [← hf2] at w2
      have nx := fun y => letters (e - s) s f2 y (by omega) (Nat.le_refl s) c3.1 c3.2 c5 (by rw [hf2]; exact FrM_s (by decide) _ fr1) (by rw [hf2, set2_n (Or.inr (by decide))]; exact h41) (by rw [hf2, set2_n (Or.inr (by decide))]; exact h51) (by rw [hf2, set2_s])
      rw [e_X9_token_26]
      simp only [↓e_X9_token_5, ↓e_X9_token_8, ↓e_X9_token_13, ↓e_X9_token_18, ↓e_X9_token_23, ↓e_X9_token_31, ↓e_X9_token_34, ↓e_X9_token_39, ↓e_X9_token_42, ↓e_X9_token_47, ↓e_X9_token_52, ↓e_X9_token_55, ↓e_X9_token_66, ↓e_X9_token_69, ↓e_X9_token_79, ↓e_X9_token_82, ↓e_X9_token_92, ↓e_X9_token_95, ↓e_X9_token_100, ↓e_X9_token_105, ↓e_X9_token_108, ↓e_X9_token_119, ↓e_X9_token_122, ↓e_X9_token_127, ↓e_X9_token_137, ↓e_X9_token_140, ↓e_X9_token_150, ↓e_X9_token_153, ↓e_X9_token_158, ↓e_X9_token_162, ↓e_X9_token_167, ↓e_X9_token_173, ↓e_X9_token_179, ↓e_X9_token_182, ↓e_X9_token_189, ↓e_X9_token_195, ↓e_X9_token_200, ↓e_X9_token_205, ↓e_X9_token_208, ↓e_X9_token_215, ↓e_X9_token_219, ↓e_X9_token_220, ↓e_X9_token_223, ↓e_X9_token_228, ↓e_X9_token_233, g9 o9_129, v9 o9_129, h4', w, h41, l, ps, m_in, in_lt, c2, w2, zps_s, bI_t, i01, zk_i, zk_r, zk_n, ↓reduceIte]
      exact nx _
    · have hs : s < nl := Classical.byContradiction (fun h => c1 (hx.2.2.2 s (by omega)))
      have ps := pos s hs
      obtain ⟨f2, hf2⟩ : ∃ g : Nat → Nat → Int32, g = set2 f1 129 6 2 := ⟨_, rfl⟩
      have w2 := fun K => (p9 o9_129).2.2.1 (f1, t) 2 K
      dsimp only at w2
      rw [← hf2] at w2
      obtain ⟨f3, hf3⟩ : ∃ g : Nat → Nat → Int32, g = set2 f2 129 7 0 := ⟨_, rfl⟩
      have w3 := fun K => (p9 o9_129).2.2.2.1 (f2, t) 0 K
      dsimp only at w3
      rw [← hf3] at w3
      have nx := fun y => figures (e - s) s f3 y (by omega) (Nat.le_refl s) c4.1 c4.2 (fun k' v' hk hv => by
        rcases c6 with ⟨a1, a2, a3⟩ | ⟨a1, a2⟩
        · refine Or.inl ⟨hk.trans a2.symm, fun _ => ?_⟩
          rw [hv, a3]
          unfold vrN vlN
          rw [if_neg (by omega)]
          by_cases e1 : e = s + 1
          · rw [if_pos e1, if_pos e1]
          · rw [if_neg e1, if_neg e1, if_pos (by omega)]
        · refine Or.inr ⟨a2, hk, ?_⟩
          rw [hv]
          unfold vrN
          rw [if_neg (by omega), if_neg (by omega), if_neg (by omega)]) (by rw [hf3, hf2]; exact FrM_s (by decide) _ (FrM_s (by decide) _ fr1)) (by rw [hf3, set2_n (Or.inr (by decide)), hf2, set2_n (Or.inr (by decide))]; exact h41) (by rw [hf3, set2_n (Or.inr (by decide)), hf2, set2_n (Or.inr (by decide))]; exact h51) (by rw [hf3, set2_n (Or.inr (by decide)), hf2, set2_s]) (by rw [hf3, set2_s]; unfold vrN; rw [if_pos rfl])
      rw [e_X9_token_26]
      simp only [↓e_X9_token_5, ↓e_X9_token_8, ↓e_X9_token_13, ↓e_X9_token_18, ↓e_X9_token_23, ↓e_X9_token_31, ↓e_X9_token_34, ↓e_X9_token_39, ↓e_X9_token_42, ↓e_X9_token_47, ↓e_X9_token_52, ↓e_X9_token_55, ↓e_X9_token_66, ↓e_X9_token_69, ↓e_X9_token_79, ↓e_X9_token_82, ↓e_X9_token_92, ↓e_X9_token_95, ↓e_X9_token_100, ↓e_X9_token_105, ↓e_X9_token_108, ↓e_X9_token_119, ↓e_X9_token_122, ↓e_X9_token_127, ↓e_X9_token_137, ↓e_X9_token_140, ↓e_X9_token_150, ↓e_X9_token_153, ↓e_X9_token_158, ↓e_X9_token_162, ↓e_X9_token_167, ↓e_X9_token_173, ↓e_X9_token_179, ↓e_X9_token_182, ↓e_X9_token_189, ↓e_X9_token_195, ↓e_X9_token_200, ↓e_X9_token_205, ↓e_X9_token_208, ↓e_X9_token_215, ↓e_X9_token_219, ↓e_X9_token_220, ↓e_X9_token_223, ↓e_X9_token_228, ↓e_X9_token_233, g9 o9_129, v9 o9_129, h4', w, h41, l, ps, m_in, in_lt, in_fg, c2, c3, w2, w3, zps_s, bI_t, bI_f, i01, zk_i, zk_r, zk_n, ↓reduceIte]
      exact nx _
    · have hs : s < nl := Classical.byContradiction (fun h => c1 (hx.2.2.2 s (by omega)))
      have ps := pos s hs
      subst c4
      have go : ∀ k', k' = k → Ev E (d + 1) zm_X9_token 220 [some (.ref 129), some (.int (tx s))] [.int k', .ref 129] (HP (f1, t)) Q := fun k' ek => by
        obtain ⟨f2, hf2⟩ : ∃ g : Nat → Nat → Int32, g = set2 f1 129 6 k' := ⟨_, rfl⟩
        have w2 := fun K => (p9 o9_129).2.2.1 (f1, t) k' K
        dsimp only at w2
        rw [← hf2] at w2
        have h42 : f2 129 4 = nI s := by rw [hf2, set2_n (Or.inr (by decide))]; exact h41
        obtain ⟨f3, hf3⟩ : ∃ g : Nat → Nat → Int32, g = set2 f2 129 4 (nI (s + 1)) := ⟨_, rfl⟩
        have w3 := fun K => (p9 o9_129).1 (f2, t) (nI (s + 1)) K
        dsimp only at w3
        rw [← hf3] at w3
        have qq : Q none (HP (f3, t)) := by
          rw [← hQ]
          refine ⟨(f3, t), rfl, rfl, rfl, by rw [hf3, hf2]; exact FrM_s (by decide) _ (FrM_s (by decide) _ fr1), by show f3 129 4 = _; rw [hf3, set2_s], by show f3 129 5 = _; rw [hf3, set2_n (Or.inr (by decide)), hf2, set2_n (Or.inr (by decide))]; exact h51, Or.inl ⟨by show f3 129 6 = _; rw [hf3, set2_n (Or.inr (by decide)), hf2, set2_s, ek], fun h => ?_⟩⟩
          rw [h] at c5
          split at c5
          · exact absurd c5 (by decide)
          · exact absurd c5 (by decide)
        rw [e_X9_token_220]
        simp only [↓e_X9_token_5, ↓e_X9_token_8, ↓e_X9_token_13, ↓e_X9_token_18, ↓e_X9_token_23, ↓e_X9_token_31, ↓e_X9_token_34, ↓e_X9_token_39, ↓e_X9_token_42, ↓e_X9_token_47, ↓e_X9_token_52, ↓e_X9_token_55, ↓e_X9_token_66, ↓e_X9_token_69, ↓e_X9_token_79, ↓e_X9_token_82, ↓e_X9_token_92, ↓e_X9_token_95, ↓e_X9_token_100, ↓e_X9_token_105, ↓e_X9_token_108, ↓e_X9_token_119, ↓e_X9_token_122, ↓e_X9_token_127, ↓e_X9_token_137, ↓e_X9_token_140, ↓e_X9_token_150, ↓e_X9_token_153, ↓e_X9_token_158, ↓e_X9_token_162, ↓e_X9_token_167, ↓e_X9_token_173, ↓e_X9_token_179, ↓e_X9_token_182, ↓e_X9_token_189, ↓e_X9_token_195, ↓e_X9_token_200, ↓e_X9_token_205, ↓e_X9_token_208, ↓e_X9_token_215, ↓e_X9_token_219, ↓e_X9_token_223, ↓e_X9_token_228, ↓e_X9_token_233, g9 o9_129, w2, h42, nI_1, w3, zk_i, zk_r, zk_n]
        exact qq
      by_cases q : tx s = 59
      · have g := go 3 (by rw [c5, if_pos q])
        have q' : (tx s = 59) = True := eq_true q
        rw [e_X9_token_26]
        simp only [↓e_X9_token_5, ↓e_X9_token_8, ↓e_X9_token_13, ↓e_X9_token_18, ↓e_X9_token_23, ↓e_X9_token_31, ↓e_X9_token_34, ↓e_X9_token_39, ↓e_X9_token_42, ↓e_X9_token_47, ↓e_X9_token_52, ↓e_X9_token_55, ↓e_X9_token_66, ↓e_X9_token_69, ↓e_X9_token_79, ↓e_X9_token_82, ↓e_X9_token_92, ↓e_X9_token_95, ↓e_X9_token_100, ↓e_X9_token_105, ↓e_X9_token_108, ↓e_X9_token_119, ↓e_X9_token_122, ↓e_X9_token_127, ↓e_X9_token_137, ↓e_X9_token_140, ↓e_X9_token_150, ↓e_X9_token_153, ↓e_X9_token_158, ↓e_X9_token_162, ↓e_X9_token_167, ↓e_X9_token_173, ↓e_X9_token_179, ↓e_X9_token_182, ↓e_X9_token_189, ↓e_X9_token_195, ↓e_X9_token_200, ↓e_X9_token_205, ↓e_X9_token_208, ↓e_X9_token_215, ↓e_X9_token_219, ↓e_X9_token_223, ↓e_X9_token_228, ↓e_X9_token_233, g9 o9_129, v9 o9_129, h4', w, h41, l, ps, m_in, in_lt, in_fg, c2, c3, q', zps_s, bI_f, zk_i, zk_r, zk_n, ↓reduceIte]
        exact g
      · have g := go 4 (by rw [c5, if_neg q])
        rw [e_X9_token_26]
        simp only [↓e_X9_token_5, ↓e_X9_token_8, ↓e_X9_token_13, ↓e_X9_token_18, ↓e_X9_token_23, ↓e_X9_token_31, ↓e_X9_token_34, ↓e_X9_token_39, ↓e_X9_token_42, ↓e_X9_token_47, ↓e_X9_token_52, ↓e_X9_token_55, ↓e_X9_token_66, ↓e_X9_token_69, ↓e_X9_token_79, ↓e_X9_token_82, ↓e_X9_token_92, ↓e_X9_token_95, ↓e_X9_token_100, ↓e_X9_token_105, ↓e_X9_token_108, ↓e_X9_token_119, ↓e_X9_token_122, ↓e_X9_token_127, ↓e_X9_token_137, ↓e_X9_token_140, ↓e_X9_token_150, ↓e_X9_token_153, ↓e_X9_token_158, ↓e_X9_token_162, ↓e_X9_token_167, ↓e_X9_token_173, ↓e_X9_token_179, ↓e_X9_token_182, ↓e_X9_token_189, ↓e_X9_token_195, ↓e_X9_token_200, ↓e_X9_token_205, ↓e_X9_token_208, ↓e_X9_token_215, ↓e_X9_token_219, ↓e_X9_token_223, ↓e_X9_token_228, ↓e_X9_token_233, g9 o9_129, v9 o9_129, h4', w, h41, l, ps, m_in, in_lt, in_fg, c2, c3, q, zps_s, bI_f, zk_i, zk_r, zk_n, ↓reduceIte]
        exact g
  have spaces : ∀ n j f' (y : Option Value), j + n = s → i ≤ j → FrM f f' → f' 129 4 = nI j → Ev E (d + 1) zm_X9_token 0 [some (.ref 129), y] [] (HP (f', t)) Q := by
    intro n
    induction n with
    | zero =>
      intro j f' y hjn hij hf h4'
      have ej : j = s := by omega
      subst ej
      have nx := after f' y hf h4'
      have l := lk f' hf j (by omega)
      have ns : (tx j = 32) = False := eq_false hns
      rw [e_X9_token_0]
      simp only [↓e_X9_token_5, ↓e_X9_token_8, ↓e_X9_token_13, ↓e_X9_token_18, ↓e_X9_token_23, ↓e_X9_token_31, ↓e_X9_token_34, ↓e_X9_token_39, ↓e_X9_token_42, ↓e_X9_token_47, ↓e_X9_token_52, ↓e_X9_token_55, ↓e_X9_token_66, ↓e_X9_token_69, ↓e_X9_token_79, ↓e_X9_token_82, ↓e_X9_token_92, ↓e_X9_token_95, ↓e_X9_token_100, ↓e_X9_token_105, ↓e_X9_token_108, ↓e_X9_token_119, ↓e_X9_token_122, ↓e_X9_token_127, ↓e_X9_token_137, ↓e_X9_token_140, ↓e_X9_token_150, ↓e_X9_token_153, ↓e_X9_token_158, ↓e_X9_token_162, ↓e_X9_token_167, ↓e_X9_token_173, ↓e_X9_token_179, ↓e_X9_token_182, ↓e_X9_token_189, ↓e_X9_token_195, ↓e_X9_token_200, ↓e_X9_token_205, ↓e_X9_token_208, ↓e_X9_token_215, ↓e_X9_token_219, ↓e_X9_token_223, ↓e_X9_token_228, ↓e_X9_token_233, g9 o9_129, v9 o9_129, h4', l, ns, zps_s, zk_i, zk_r, zk_n, ↓reduceIte]
      exact nx
    | succ n ih =>
      intro j f' y hjn hij hf h4'
      obtain ⟨f2, hf2⟩ : ∃ g : Nat → Nat → Int32, g = set2 f' 129 4 (nI (j + 1)) := ⟨_, rfl⟩
      have w := fun K => (p9 o9_129).1 (f', t) (nI (j + 1)) K
      dsimp only at w
      rw [← hf2] at w
      have nx := ih (j + 1) f2 y (by omega) (by omega) (by rw [hf2]; exact FrM_s (by decide) _ hf) (by rw [hf2, set2_s])
      have l := lk f' hf j (by omega)
      have ns : (tx j = 32) = True := eq_true (hsp j hij (by omega))
      rw [e_X9_token_0]
      simp only [↓e_X9_token_5, ↓e_X9_token_8, ↓e_X9_token_13, ↓e_X9_token_18, ↓e_X9_token_23, ↓e_X9_token_31, ↓e_X9_token_34, ↓e_X9_token_39, ↓e_X9_token_42, ↓e_X9_token_47, ↓e_X9_token_52, ↓e_X9_token_55, ↓e_X9_token_66, ↓e_X9_token_69, ↓e_X9_token_79, ↓e_X9_token_82, ↓e_X9_token_92, ↓e_X9_token_95, ↓e_X9_token_100, ↓e_X9_token_105, ↓e_X9_token_108, ↓e_X9_token_119, ↓e_X9_token_122, ↓e_X9_token_127, ↓e_X9_token_137, ↓e_X9_token_140, ↓e_X9_token_150, ↓e_X9_token_153, ↓e_X9_token_158, ↓e_X9_token_162, ↓e_X9_token_167, ↓e_X9_token_173, ↓e_X9_token_179, ↓e_X9_token_182, ↓e_X9_token_189, ↓e_X9_token_195, ↓e_X9_token_200, ↓e_X9_token_205, ↓e_X9_token_208, ↓e_X9_token_215, ↓e_X9_token_219, ↓e_X9_token_223, ↓e_X9_token_228, ↓e_X9_token_233, g9 o9_129, v9 o9_129, h4', l, ns, nI_1, w, zps_s, zk_i, zk_r, zk_n, ↓reduceIte]
      exact nx
  have start := spaces (s - i) i f none (by omega) (Nat.le_refl i) (FrM_r f) h4
  rw [c_X9_token]
  exact start
end F2
