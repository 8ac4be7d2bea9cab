/-! READ: figures and the step, in the class -/
section RS
variable {tx : Nat → Int32} {nl : Nat}
theorem two_lt {a b : Nat} (h : b ≤ a) (ha : a < 2 ^ 31) : ((2 : Int32) < nI a - nI b) = (b + 2 < a) := by
  have e : nI a - nI b = nI (a - b) := by
    rw [Int32.sub_eq_iff_eq_add, nI_add, Nat.sub_add_cancel h]
  rw [e, show (2 : Int32) = nI 2 from by decide, nI_lt_iff (by decide) (by omega)]
  exact propext ⟨fun h => by omega, fun h => by omega⟩
theorem nI_100 {n : Nat} (h : n ≤ 99) : (nI n < 100) = True := eq_true (by
  rw [show (100 : Int32) = nI 100 from by decide, nI_lt_iff (by omega) (by decide)]
  omega)
set_option maxRecDepth 100000 in
theorem x_passFigures (E : zE) (d : Nat) {f : Nat → Nat → Int32} {t : (Nat → Nat → Int64) × Nat} (ht : t.2 = 18) (hx : RX f tx nl) {s : Nat} (hs : s < nl) (h3 : f 24 3 = nI s) (h4 : f 24 4 = nI s) (hl : fgB (tx s) = true) : Hr E (d + 1) 55 [.ref 24] (f, t) (fun v z' => v = none ∧ z'.2 = t ∧ Fr f z'.1 ∧ z'.1 24 4 = nI s ∧ ∃ e, s < e ∧ e ≤ nl ∧ sgP tx fgB s e ∧ z'.1 24 3 = nI e ∧ ((e ≤ s + 2 ∧ z'.1 24 5 = 2 ∧ z'.1 24 6 = vlN tx s e) ∨ (s + 2 < e ∧ z'.1 24 5 = 4))) := by
  have h240 := hx.2.1
  unfold Hr
  generalize hQ : (fun (v : Option Value) (h : zH) => ∃ z' : zS, h = HP z' ∧ (v = none ∧ z'.2 = t ∧ Fr f z'.1 ∧ z'.1 24 4 = nI s ∧ ∃ e, s < e ∧ e ≤ nl ∧ sgP tx fgB s e ∧ z'.1 24 3 = nI e ∧ ((e ≤ s + 2 ∧ z'.1 24 5 = 2 ∧ z'.1 24 6 = vlN tx s e) ∨ (s + 2 < e ∧ z'.1 24 5 = 4)))) = Q
  have fin : ∀ j f', s ≤ j → j ≤ nl → Fr f f' → f' 24 4 = nI s → f' 24 3 = nI j → (∀ m, s ≤ m → m < j → fgB (tx m) = true) → (s < j → j ≤ s + 2 → f' 24 6 = vlN tx s j) → fgB (tx j) = false → Ev E (d + 1) zm_X5_passFigures 80 [some (.ref 24), some (.int (nI j))] [] (HP (f', t)) Q := fun j f' h1 h2 hf hk h3 h5 h7 h6 => by
    have sj : s < j := by
      have : s ≠ j := fun e => by
        subst e
        rw [hl] at h6
        exact absurd h6 (by decide)
      omega
    by_cases q : s + 2 < j
    · obtain ⟨f2, hf2⟩ : ∃ g : Nat → Nat → Int32, g = set2 f' 24 5 4 := ⟨_, rfl⟩
      have w := fun K => (p5 o5_24).2.2.2.1 (f', t) 4 K
      dsimp only at w
      rw [← hf2] at w
      have qq : Q none (HP (f2, t)) := by
        rw [← hQ]
        refine ⟨(f2, t), rfl, rfl, rfl, by rw [hf2]; exact Fr_s (by decide) _ hf, by show f2 24 4 = nI s; rw [hf2, set2_n (Or.inr (by decide))]; exact hk, j, sj, h2, ⟨h5, h6⟩, by show f2 24 3 = nI j; rw [hf2, set2_n (Or.inr (by decide))]; exact h3, Or.inr ⟨q, by show f2 24 5 = 4; rw [hf2, set2_s]⟩⟩
      rw [e_X5_passFigures_80]
      simp only [↓e_X5_passFigures_5, ↓e_X5_passFigures_9, ↓e_X5_passFigures_15, ↓e_X5_passFigures_18, ↓e_X5_passFigures_22, ↓e_X5_passFigures_24, ↓e_X5_passFigures_27, ↓e_X5_passFigures_30, ↓e_X5_passFigures_35, ↓e_X5_passFigures_40, ↓e_X5_passFigures_46, ↓e_X5_passFigures_51, ↓e_X5_passFigures_53, ↓e_X5_passFigures_60, ↓e_X5_passFigures_64, ↓e_X5_passFigures_67, ↓e_X5_passFigures_74, ↓e_X5_passFigures_85, ↓e_X5_passFigures_89, ↓e_X5_passFigures_94, ↓e_X5_passFigures_98, ↓e_X5_passFigures_99, ↓e_X5_passFigures_102, g5 o5_24, h3, hk, two_lt h1 (by omega), q, w, zk_i, zk_r, zk_n, ↓reduceIte]
      exact qq
    · obtain ⟨f2, hf2⟩ : ∃ g : Nat → Nat → Int32, g = set2 f' 24 5 2 := ⟨_, rfl⟩
      have w := fun K => (p5 o5_24).2.2.2.1 (f', t) 2 K
      dsimp only at w
      rw [← hf2] at w
      have qq : Q none (HP (f2, t)) := by
        rw [← hQ]
        refine ⟨(f2, t), rfl, rfl, rfl, by rw [hf2]; exact Fr_s (by decide) _ hf, by show f2 24 4 = nI s; rw [hf2, set2_n (Or.inr (by decide))]; exact hk, j, sj, h2, ⟨h5, h6⟩, by show f2 24 3 = nI j; rw [hf2, set2_n (Or.inr (by decide))]; exact h3, Or.inl ⟨by omega, by show f2 24 5 = 2; rw [hf2, set2_s], by show f2 24 6 = _; rw [hf2, set2_n (Or.inr (by decide))]; exact h7 sj (by omega)⟩⟩
      rw [e_X5_passFigures_80]
      simp only [↓e_X5_passFigures_5, ↓e_X5_passFigures_9, ↓e_X5_passFigures_15, ↓e_X5_passFigures_18, ↓e_X5_passFigures_22, ↓e_X5_passFigures_24, ↓e_X5_passFigures_27, ↓e_X5_passFigures_30, ↓e_X5_passFigures_35, ↓e_X5_passFigures_40, ↓e_X5_passFigures_46, ↓e_X5_passFigures_51, ↓e_X5_passFigures_53, ↓e_X5_passFigures_60, ↓e_X5_passFigures_64, ↓e_X5_passFigures_67, ↓e_X5_passFigures_74, ↓e_X5_passFigures_85, ↓e_X5_passFigures_89, ↓e_X5_passFigures_94, ↓e_X5_passFigures_98, ↓e_X5_passFigures_99, ↓e_X5_passFigures_102, g5 o5_24, h3, hk, two_lt h1 (by omega), q, w, zk_i, zk_r, zk_n, ↓reduceIte]
      exact qq
  have loop : ∀ k j (f' : Nat → Nat → Int32), j + k = nl → s ≤ j → Fr f f' → f' 24 4 = nI s → f' 24 3 = nI j → (∀ m, s ≤ m → m < j → fgB (tx m) = true) → (s < j → j ≤ s + 2 → f' 24 6 = vlN tx s j) → (j = s → f' 24 6 = 0) → Ev E (d + 1) zm_X5_passFigures 10 [some (.ref 24), some (.int (nI j))] [] (HP (f', t)) Q := by
    intro k
    induction k with
    | zero =>
      intro j f' hjk hsj hf hk h3' h5 h7 h8
      have e : j = nl := by omega
      subst e
      have hx' := Fr_x hf hx
      have q := fin j f' hsj (Nat.le_refl j) hf hk h3' h5 h7 (by rw [hx.2.2.2 j (Nat.le_refl j)]; exact fg_m)
      have n1 : j < 2 ^ 31 := by omega
      rw [e_X5_passFigures_10]
      simp only [↓e_X5_passFigures_5, ↓e_X5_passFigures_9, ↓e_X5_passFigures_15, ↓e_X5_passFigures_18, ↓e_X5_passFigures_22, ↓e_X5_passFigures_24, ↓e_X5_passFigures_27, ↓e_X5_passFigures_30, ↓e_X5_passFigures_35, ↓e_X5_passFigures_40, ↓e_X5_passFigures_46, ↓e_X5_passFigures_51, ↓e_X5_passFigures_53, ↓e_X5_passFigures_60, ↓e_X5_passFigures_64, ↓e_X5_passFigures_67, ↓e_X5_passFigures_74, ↓e_X5_passFigures_85, ↓e_X5_passFigures_89, ↓e_X5_passFigures_94, ↓e_X5_passFigures_98, ↓e_X5_passFigures_99, ↓e_X5_passFigures_102, g5 o5_24, Nat.reduceAdd, hx'.1, nI_lt_iff n1 n1, Nat.lt_irrefl, zk_i, zk_r, zk_n, ↓reduceIte]
      exact q
    | succ k ihk =>
      intro j f' hjk hsj hf hk h3' h5 h7 h8
      have hx' := Fr_x hf hx
      have hj : j < nl := by omega
      have r := ri_k i18 (show j < 240 by omega) (by decide) E (f', t)
      have e18 : f' 18 j = tx j := (hx'.2.2.1 j hj).1
      cases hb : fgB (tx j) with
      | false =>
        have q := fin j f' hsj (by omega) hf hk h3' h5 h7 hb
        rw [e_X5_passFigures_10]
        simp only [↓e_X5_passFigures_5, ↓e_X5_passFigures_9, ↓e_X5_passFigures_15, ↓e_X5_passFigures_18, ↓e_X5_passFigures_22, ↓e_X5_passFigures_24, ↓e_X5_passFigures_27, ↓e_X5_passFigures_30, ↓e_X5_passFigures_35, ↓e_X5_passFigures_40, ↓e_X5_passFigures_46, ↓e_X5_passFigures_51, ↓e_X5_passFigures_53, ↓e_X5_passFigures_60, ↓e_X5_passFigures_64, ↓e_X5_passFigures_67, ↓e_X5_passFigures_74, ↓e_X5_passFigures_85, ↓e_X5_passFigures_89, ↓e_X5_passFigures_94, ↓e_X5_passFigures_98, ↓e_X5_passFigures_99, ↓e_X5_passFigures_102, g5 o5_24, Nat.reduceAdd, hx'.1, ht, nI_lt_iff (show j < 2 ^ 31 by omega) (show nl < 2 ^ 31 by omega), hj, r, e18, x_isFigure, hb, zps_s, bI_f, zk_i, zk_r, zk_n, ↓reduceIte]
        exact q
      | true =>
        have go : ∀ v, (s < j + 1 → j + 1 ≤ s + 2 → v = vlN tx s (j + 1)) → Ev E (d + 1) zm_X5_passFigures 64 [some (.ref 24), some (.int (nI j))] [.int v, .ref 24] (HP (f', t)) Q := fun v hv => by
          obtain ⟨f2, hf2⟩ : ∃ g : Nat → Nat → Int32, g = set2 f' 24 6 v := ⟨_, rfl⟩
          have w := fun K => (p5 o5_24).2.2.2.2 (f', t) v K
          dsimp only at w
          rw [← hf2] at w
          obtain ⟨f3, hf3⟩ : ∃ g : Nat → Nat → Int32, g = set2 f2 24 3 (nI (j + 1)) := ⟨_, rfl⟩
          have w2 := fun K => (p5 o5_24).2.1 (f2, t) (nI (j + 1)) K
          dsimp only at w2
          rw [← hf3] at w2
          have nx := ihk (j + 1) f3 (by omega) (by omega) (by rw [hf3, hf2]; exact Fr_s (by decide) _ (Fr_s (by decide) _ hf)) (by rw [hf3, set2_n (Or.inr (by decide)), hf2, set2_n (Or.inr (by decide))]; exact hk) (by rw [hf3, set2_s]) (fun m h1 h2 => by
            by_cases e : m = j
            · subst e
              exact hb
            · exact h5 m h1 (by omega)) (fun a b => by rw [hf3, set2_n (Or.inr (by decide)), hf2, set2_s]; exact hv a b) (fun e => by omega)
          rw [e_X5_passFigures_64]
          simp only [↓e_X5_passFigures_5, ↓e_X5_passFigures_9, ↓e_X5_passFigures_15, ↓e_X5_passFigures_18, ↓e_X5_passFigures_22, ↓e_X5_passFigures_24, ↓e_X5_passFigures_27, ↓e_X5_passFigures_30, ↓e_X5_passFigures_35, ↓e_X5_passFigures_40, ↓e_X5_passFigures_46, ↓e_X5_passFigures_51, ↓e_X5_passFigures_53, ↓e_X5_passFigures_60, ↓e_X5_passFigures_67, ↓e_X5_passFigures_74, ↓e_X5_passFigures_85, ↓e_X5_passFigures_89, ↓e_X5_passFigures_94, ↓e_X5_passFigures_98, ↓e_X5_passFigures_99, ↓e_X5_passFigures_102, w, w2, nI_1, zk_i, zk_r, zk_n, ↓reduceIte]
          exact nx
        by_cases q : f' 24 6 < 100
        · have g := go (10 * f' 24 6 + tx j - 48) (fun _ b => by
            by_cases e : j = s
            · subst e
              rw [h8 rfl]
              unfold vlN
              rw [if_pos rfl]
              rfl
            · have ej : j = s + 1 := by omega
              subst ej
              rw [h7 (by omega) (by omega)]
              unfold vlN
              rw [if_pos rfl, if_neg (by omega)]
              rfl)
          rw [e_X5_passFigures_10]
          simp only [↓e_X5_passFigures_5, ↓e_X5_passFigures_9, ↓e_X5_passFigures_15, ↓e_X5_passFigures_18, ↓e_X5_passFigures_22, ↓e_X5_passFigures_24, ↓e_X5_passFigures_27, ↓e_X5_passFigures_30, ↓e_X5_passFigures_35, ↓e_X5_passFigures_40, ↓e_X5_passFigures_46, ↓e_X5_passFigures_51, ↓e_X5_passFigures_53, ↓e_X5_passFigures_60, ↓e_X5_passFigures_67, ↓e_X5_passFigures_74, ↓e_X5_passFigures_85, ↓e_X5_passFigures_89, ↓e_X5_passFigures_94, ↓e_X5_passFigures_98, ↓e_X5_passFigures_99, ↓e_X5_passFigures_102, g5 o5_24, Nat.reduceAdd, hx'.1, ht, nI_lt_iff (show j < 2 ^ 31 by omega) (show nl < 2 ^ 31 by omega), hj, r, e18, x_isFigure, hb, q, zps_s, bI_t, i01, zk_i, zk_r, zk_n, ↓reduceIte]
          exact g
        · have g := go (f' 24 6) (fun _ b => by
            exfalso
            by_cases e : j = s
            · subst e
              rw [h8 rfl] at q
              exact q (by decide)
            · have ej : j = s + 1 := by omega
              subst ej
              obtain ⟨n, n1, n2⟩ := v1_lt hl
              rw [h7 (by omega) (by omega)] at q
              unfold vlN at q
              rw [if_pos rfl, n2, nI_100 (by omega)] at q
              exact q trivial)
          rw [e_X5_passFigures_10]
          simp only [↓e_X5_passFigures_5, ↓e_X5_passFigures_9, ↓e_X5_passFigures_15, ↓e_X5_passFigures_18, ↓e_X5_passFigures_22, ↓e_X5_passFigures_24, ↓e_X5_passFigures_27, ↓e_X5_passFigures_30, ↓e_X5_passFigures_35, ↓e_X5_passFigures_40, ↓e_X5_passFigures_46, ↓e_X5_passFigures_51, ↓e_X5_passFigures_53, ↓e_X5_passFigures_60, ↓e_X5_passFigures_67, ↓e_X5_passFigures_74, ↓e_X5_passFigures_85, ↓e_X5_passFigures_89, ↓e_X5_passFigures_94, ↓e_X5_passFigures_98, ↓e_X5_passFigures_99, ↓e_X5_passFigures_102, g5 o5_24, Nat.reduceAdd, hx'.1, ht, nI_lt_iff (show j < 2 ^ 31 by omega) (show nl < 2 ^ 31 by omega), hj, r, e18, x_isFigure, hb, q, zps_s, bI_t, i01, zk_i, zk_r, zk_n, ↓reduceIte]
          exact g
  obtain ⟨f1, hf1⟩ : ∃ g : Nat → Nat → Int32, g = set2 f 24 6 0 := ⟨_, rfl⟩
  have w := fun K => (p5 o5_24).2.2.2.2 (f, t) 0 K
  dsimp only at w
  rw [← hf1] at w
  have h41 : f1 24 4 = nI s := by rw [hf1, set2_n (Or.inr (by decide))]; exact h4
  have start := loop (nl - s) s f1 (by omega) (Nat.le_refl s) (by rw [hf1]; exact Fr_s (by decide) _ (Fr_r f)) h41 (by rw [hf1, set2_n (Or.inr (by decide))]; exact h3) (fun m h1 h2 => by omega) (fun a _ => by omega) (fun _ => by rw [hf1, set2_s])
  simp only [↓c_X5_passFigures, ↓e_X5_passFigures_0, ↓e_X5_passFigures_5, ↓e_X5_passFigures_9, ↓e_X5_passFigures_15, ↓e_X5_passFigures_18, ↓e_X5_passFigures_22, ↓e_X5_passFigures_24, ↓e_X5_passFigures_27, ↓e_X5_passFigures_30, ↓e_X5_passFigures_35, ↓e_X5_passFigures_40, ↓e_X5_passFigures_46, ↓e_X5_passFigures_51, ↓e_X5_passFigures_53, ↓e_X5_passFigures_60, ↓e_X5_passFigures_67, ↓e_X5_passFigures_74, ↓e_X5_passFigures_85, ↓e_X5_passFigures_89, ↓e_X5_passFigures_94, ↓e_X5_passFigures_98, ↓e_X5_passFigures_99, ↓e_X5_passFigures_102, w, g5 o5_24, h41, zk_i, zk_r, zk_n]
  exact start
set_option maxRecDepth 100000 in
theorem x_step (E : zE) (d : Nat) {f : Nat → Nat → Int32} {t : (Nat → Nat → Int64) × Nat} (ht : t.2 = 18) (hx : RX f tx nl) {i : Nat} (hi : i ≤ nl) (h3 : f 24 3 = nI i) : Hr E (d + 2) 53 [.ref 24] (f, t) (fun v z' => v = none ∧ z'.2 = t ∧ Fr f z'.1 ∧ ∃ s e, Tok tx i s e (z'.1 24 5) (z'.1 24 6) ∧ s ≤ nl ∧ e ≤ nl ∧ z'.1 24 3 = nI e ∧ z'.1 24 4 = nI s) := by
  have h240 := hx.2.1
  unfold Hr
  generalize hQ : (fun (v : Option Value) (h : zH) => ∃ z' : zS, h = HP z' ∧ (v = none ∧ z'.2 = t ∧ Fr f z'.1 ∧ ∃ s e, Tok tx i s e (z'.1 24 5) (z'.1 24 6) ∧ s ≤ nl ∧ e ≤ nl ∧ z'.1 24 3 = nI e ∧ z'.1 24 4 = nI s)) = Q
  have fin : ∀ s f', i ≤ s → s ≤ nl → Fr f f' → f' 24 3 = nI s → (∀ m, i ≤ m → m < s → tx m = 32) → ¬ tx s = 32 → ∀ y, Ev E (d + 2) zm_X5_step 37 [some (.ref 24), y] [] (HP (f', t)) Q := fun s f' h1 h2 hf h3 h5 h6 y => by
    have hx' := Fr_x hf hx
    obtain ⟨f1, hf1⟩ : ∃ g : Nat → Nat → Int32, g = set2 f' 24 4 (nI s) := ⟨_, rfl⟩
    have w := fun K => (p5 o5_24).2.2.1 (f', t) (nI s) K
    dsimp only at w
    rw [← hf1] at w
    have fr1 : Fr f f1 := by rw [hf1]; exact Fr_s (by decide) _ hf
    have hx1 := Fr_x fr1 hx
    have h41 : f1 24 4 = nI s := by rw [hf1, set2_s]
    have h31 : f1 24 3 = nI s := by rw [hf1, set2_n (Or.inr (by decide))]; exact h3
    by_cases hs : s < nl
    · have r := ri_k i18 (show s < 240 by omega) (by decide) E (f1, t)
      have e18 : f1 18 s = tx s := (hx1.2.2.1 s hs).1
      have nm := (hx1.2.2.1 s hs).2
      cases hb : ltB (tx s) with
      | true =>
        obtain ⟨f2, hf2⟩ : ∃ g : Nat → Nat → Int32, g = set2 f1 24 5 1 := ⟨_, rfl⟩
        have w2 := fun K => (p5 o5_24).2.2.2.1 (f1, t) 1 K
        dsimp only at w2
        rw [← hf2] at w2
        have fr2 : Fr f f2 := by rw [hf2]; exact Fr_s (by decide) _ fr1
        obtain ⟨v, z3, ⟨e1, e2, e3, e4, e, e5, e6, e7, e8⟩, k⟩ := Hr_use (x_passLetters E d (t := t) ht (Fr_x fr2 hx) hs (by rw [hf2, set2_n (Or.inr (by decide))]; exact h31) (by rw [hf2, set2_n (Or.inr (by decide))]; exact h41) hb)
        subst e1
        have qq : Q none (HP z3) := by
          rw [← hQ]
          refine ⟨z3, rfl, rfl, e2, Fr_t fr2 e3, s, e, ?_, h2, e6, e8, ?_⟩
          · rw [e4 5 (by decide), hf2, set2_s]
            exact ⟨h1, h5, h6, Or.inr (Or.inl ⟨nm, hb, e7, e5, rfl⟩)⟩
          · rw [e4 4 (by decide), hf2, set2_n (Or.inr (by decide))]
            exact h41
        rw [e_X5_step_37]
        simp only [↓e_X5_step_4, ↓e_X5_step_10, ↓e_X5_step_13, ↓e_X5_step_17, ↓e_X5_step_19, ↓e_X5_step_24, ↓e_X5_step_31, ↓e_X5_step_42, ↓e_X5_step_45, ↓e_X5_step_49, ↓e_X5_step_53, ↓e_X5_step_56, ↓e_X5_step_60, ↓e_X5_step_64, ↓e_X5_step_65, ↓e_X5_step_68, ↓e_X5_step_69, ↓e_X5_step_75, ↓e_X5_step_80, ↓e_X5_step_83, ↓e_X5_step_87, ↓e_X5_step_90, ↓e_X5_step_95, ↓e_X5_step_99, ↓e_X5_step_102, ↓e_X5_step_106, ↓e_X5_step_109, ↓e_X5_step_113, ↓e_X5_step_116, ↓e_X5_step_123, ↓e_X5_step_127, ↓e_X5_step_128, ↓e_X5_step_131, ↓e_X5_step_136, ↓e_X5_step_141, g5 o5_24, v5 o5_24, h3, w, h41, hx1.1, ht, nI_lt_iff (show s < 2 ^ 31 by omega) (show nl < 2 ^ 31 by omega), hs, r, e18, nm, x_isLetter, hb, w2, k, zps_s, zps_n, bI_t, i01, zk_i, zk_r, zk_n, ↓reduceIte]
        exact qq
      | false =>
        cases hb2 : fgB (tx s) with
        | true =>
          obtain ⟨v, z3, ⟨e1, e2, e3, e4, e, e5, e6, e7, e8, e9⟩, k⟩ := Hr_use (x_passFigures E d (t := t) ht hx1 hs h31 h41 hb2)
          subst e1
          have qq : Q none (HP z3) := by
            rw [← hQ]
            refine ⟨z3, rfl, rfl, e2, Fr_t fr1 e3, s, e, ?_, h2, e6, e8, e4⟩
            exact ⟨h1, h5, h6, Or.inr (Or.inr (Or.inl ⟨nm, hb, hb2, e7, e5, e9⟩))⟩
          rw [e_X5_step_37]
          simp only [↓e_X5_step_4, ↓e_X5_step_10, ↓e_X5_step_13, ↓e_X5_step_17, ↓e_X5_step_19, ↓e_X5_step_24, ↓e_X5_step_31, ↓e_X5_step_42, ↓e_X5_step_45, ↓e_X5_step_49, ↓e_X5_step_53, ↓e_X5_step_56, ↓e_X5_step_60, ↓e_X5_step_64, ↓e_X5_step_65, ↓e_X5_step_68, ↓e_X5_step_69, ↓e_X5_step_75, ↓e_X5_step_80, ↓e_X5_step_83, ↓e_X5_step_87, ↓e_X5_step_90, ↓e_X5_step_95, ↓e_X5_step_99, ↓e_X5_step_102, ↓e_X5_step_106, ↓e_X5_step_109, ↓e_X5_step_113, ↓e_X5_step_116, ↓e_X5_step_123, ↓e_X5_step_127, ↓e_X5_step_128, ↓e_X5_step_131, ↓e_X5_step_136, ↓e_X5_step_141, g5 o5_24, v5 o5_24, h3, w, h41, hx1.1, ht, nI_lt_iff (show s < 2 ^ 31 by omega) (show nl < 2 ^ 31 by omega), hs, r, e18, nm, x_isLetter, x_isFigure, hb, hb2, k, zps_s, zps_n, bI_t, bI_f, i01, zk_i, zk_r, zk_n, ↓reduceIte]
          exact qq
        | false =>
          have go : ∀ v, v = (if tx s = 59 then (3 : Int32) else 4) → Ev E (d + 2) zm_X5_step 128 [some (.ref 24), some (.int (tx s))] [.int v, .ref 24] (HP (f1, t)) Q := fun v ev => by
            obtain ⟨f2, hf2⟩ : ∃ g : Nat → Nat → Int32, g = set2 f1 24 5 v := ⟨_, rfl⟩
            have w2 := fun K => (p5 o5_24).2.2.2.1 (f1, t) v K
            dsimp only at w2
            rw [← hf2] at w2
            have h42 : f2 24 4 = nI s := by rw [hf2, set2_n (Or.inr (by decide))]; exact h41
            obtain ⟨f3, hf3⟩ : ∃ g : Nat → Nat → Int32, g = set2 f2 24 3 (nI (s + 1)) := ⟨_, rfl⟩
            have w3 := fun K => (p5 o5_24).2.1 (f2, t) (nI (s + 1)) K
            dsimp only at w3
            rw [← hf3] at w3
            have qq : Q none (HP (f3, t)) := by
              rw [← hQ]
              refine ⟨(f3, t), rfl, rfl, rfl, by rw [hf3, hf2]; exact Fr_s (by decide) _ (Fr_s (by decide) _ fr1), s, s + 1, ?_, h2, by omega, by show f3 24 3 = _; rw [hf3, set2_s], by show f3 24 4 = _; rw [hf3, set2_n (Or.inr (by decide))]; exact h42⟩
              have e5 : f3 24 5 = v := by rw [hf3, set2_n (Or.inr (by decide)), hf2, set2_s]
              show Tok tx i s (s + 1) (f3 24 5) (f3 24 6)
              rw [e5, ev]
              exact ⟨h1, h5, h6, Or.inr (Or.inr (Or.inr ⟨nm, hb, hb2, rfl, rfl⟩))⟩
            rw [e_X5_step_128]
            simp only [↓e_X5_step_4, ↓e_X5_step_10, ↓e_X5_step_13, ↓e_X5_step_17, ↓e_X5_step_19, ↓e_X5_step_24, ↓e_X5_step_31, ↓e_X5_step_42, ↓e_X5_step_45, ↓e_X5_step_49, ↓e_X5_step_53, ↓e_X5_step_56, ↓e_X5_step_60, ↓e_X5_step_64, ↓e_X5_step_65, ↓e_X5_step_68, ↓e_X5_step_69, ↓e_X5_step_75, ↓e_X5_step_80, ↓e_X5_step_83, ↓e_X5_step_87, ↓e_X5_step_90, ↓e_X5_step_95, ↓e_X5_step_99, ↓e_X5_step_102, ↓e_X5_step_106, ↓e_X5_step_109, ↓e_X5_step_113, ↓e_X5_step_116, ↓e_X5_step_123, ↓e_X5_step_127, ↓e_X5_step_131, ↓e_X5_step_136, ↓e_X5_step_141, g5 o5_24, w2, h42, nI_1, w3, zk_i, zk_r, zk_n]
            exact qq
          by_cases q : tx s = 59
          · have g := go 3 (by rw [if_pos q])
            have q' : (tx s = 59) = True := eq_true q
            rw [e_X5_step_37]
            simp only [↓e_X5_step_4, ↓e_X5_step_10, ↓e_X5_step_13, ↓e_X5_step_17, ↓e_X5_step_19, ↓e_X5_step_24, ↓e_X5_step_31, ↓e_X5_step_42, ↓e_X5_step_45, ↓e_X5_step_49, ↓e_X5_step_53, ↓e_X5_step_56, ↓e_X5_step_60, ↓e_X5_step_64, ↓e_X5_step_65, ↓e_X5_step_68, ↓e_X5_step_69, ↓e_X5_step_75, ↓e_X5_step_80, ↓e_X5_step_83, ↓e_X5_step_87, ↓e_X5_step_90, ↓e_X5_step_95, ↓e_X5_step_99, ↓e_X5_step_102, ↓e_X5_step_106, ↓e_X5_step_109, ↓e_X5_step_113, ↓e_X5_step_116, ↓e_X5_step_123, ↓e_X5_step_127, ↓e_X5_step_131, ↓e_X5_step_136, ↓e_X5_step_141, g5 o5_24, v5 o5_24, h3, w, h41, hx1.1, ht, nI_lt_iff (show s < 2 ^ 31 by omega) (show nl < 2 ^ 31 by omega), hs, r, e18, nm, x_isLetter, x_isFigure, hb, hb2, q', zps_s, zps_n, bI_f, zk_i, zk_r, zk_n, ↓reduceIte]
            exact g
          · have g := go 4 (by rw [if_neg q])
            rw [e_X5_step_37]
            simp only [↓e_X5_step_4, ↓e_X5_step_10, ↓e_X5_step_13, ↓e_X5_step_17, ↓e_X5_step_19, ↓e_X5_step_24, ↓e_X5_step_31, ↓e_X5_step_42, ↓e_X5_step_45, ↓e_X5_step_49, ↓e_X5_step_53, ↓e_X5_step_56, ↓e_X5_step_60, ↓e_X5_step_64, ↓e_X5_step_65, ↓e_X5_step_68, ↓e_X5_step_69, ↓e_X5_step_75, ↓e_X5_step_80, ↓e_X5_step_83, ↓e_X5_step_87, ↓e_X5_step_90, ↓e_X5_step_95, ↓e_X5_step_99, ↓e_X5_step_102, ↓e_X5_step_106, ↓e_X5_step_109, ↓e_X5_step_113, ↓e_X5_step_116, ↓e_X5_step_123, ↓e_X5_step_127, ↓e_X5_step_131, ↓e_X5_step_136, ↓e_X5_step_141, g5 o5_24, v5 o5_24, h3, w, h41, hx1.1, ht, nI_lt_iff (show s < 2 ^ 31 by omega) (show nl < 2 ^ 31 by omega), hs, r, e18, nm, x_isLetter, x_isFigure, hb, hb2, q, zps_s, zps_n, bI_f, zk_i, zk_r, zk_n, ↓reduceIte]
            exact g
    · have es : s = nl := by omega
      obtain ⟨f2, hf2⟩ : ∃ g : Nat → Nat → Int32, g = set2 f1 24 5 0 := ⟨_, rfl⟩
      have w2 := fun K => (p5 o5_24).2.2.2.1 (f1, t) 0 K
      dsimp only at w2
      rw [← hf2] at w2
      have qq : Q none (HP (f2, t)) := by
        rw [← hQ]
        refine ⟨(f2, t), rfl, rfl, rfl, by rw [hf2]; exact Fr_s (by decide) _ fr1, s, s, ?_, h2, h2, by show f2 24 3 = _; rw [hf2, set2_n (Or.inr (by decide))]; exact h31, by show f2 24 4 = _; rw [hf2, set2_n (Or.inr (by decide))]; exact h41⟩
        have e5 : f2 24 5 = 0 := by rw [hf2, set2_s]
        show Tok tx i s s (f2 24 5) (f2 24 6)
        rw [e5]
        exact ⟨h1, h5, h6, Or.inl ⟨hx.2.2.2 s (by omega), rfl, rfl⟩⟩
      rw [e_X5_step_37]
      simp only [↓e_X5_step_4, ↓e_X5_step_10, ↓e_X5_step_13, ↓e_X5_step_17, ↓e_X5_step_19, ↓e_X5_step_24, ↓e_X5_step_31, ↓e_X5_step_42, ↓e_X5_step_45, ↓e_X5_step_49, ↓e_X5_step_53, ↓e_X5_step_56, ↓e_X5_step_60, ↓e_X5_step_64, ↓e_X5_step_65, ↓e_X5_step_68, ↓e_X5_step_69, ↓e_X5_step_75, ↓e_X5_step_80, ↓e_X5_step_83, ↓e_X5_step_87, ↓e_X5_step_90, ↓e_X5_step_95, ↓e_X5_step_99, ↓e_X5_step_102, ↓e_X5_step_106, ↓e_X5_step_109, ↓e_X5_step_113, ↓e_X5_step_116, ↓e_X5_step_123, ↓e_X5_step_127, ↓e_X5_step_131, ↓e_X5_step_136, ↓e_X5_step_141, g5 o5_24, v5 o5_24, h3, w, h41, hx1.1, nI_lt_iff (show s < 2 ^ 31 by omega) (show nl < 2 ^ 31 by omega), hs, w2, zps_s, zps_n, zk_i, zk_r, zk_n, ↓reduceIte]
      exact qq
  have loop : ∀ k j (f' : Nat → Nat → Int32), j + k = nl → i ≤ j → Fr f f' → f' 24 3 = nI j → (∀ m, i ≤ m → m < j → tx m = 32) → Ev E (d + 2) zm_X5_step 5 [some (.ref 24), some (.int (nI j))] [] (HP (f', t)) Q := by
    intro k
    induction k with
    | zero =>
      intro j f' hjk hij hf h3' h5
      have e : j = nl := by omega
      subst e
      have hx' := Fr_x hf hx
      have q := fin j f' hij (Nat.le_refl j) hf h3' h5 (by rw [hx.2.2.2 j (Nat.le_refl j)]; decide) (some (.int (nI j)))
      have n1 : j < 2 ^ 31 := by omega
      rw [e_X5_step_5]
      simp only [↓e_X5_step_4, ↓e_X5_step_10, ↓e_X5_step_13, ↓e_X5_step_17, ↓e_X5_step_19, ↓e_X5_step_24, ↓e_X5_step_31, ↓e_X5_step_42, ↓e_X5_step_45, ↓e_X5_step_49, ↓e_X5_step_53, ↓e_X5_step_56, ↓e_X5_step_60, ↓e_X5_step_64, ↓e_X5_step_65, ↓e_X5_step_68, ↓e_X5_step_69, ↓e_X5_step_75, ↓e_X5_step_80, ↓e_X5_step_83, ↓e_X5_step_87, ↓e_X5_step_90, ↓e_X5_step_95, ↓e_X5_step_99, ↓e_X5_step_102, ↓e_X5_step_106, ↓e_X5_step_109, ↓e_X5_step_113, ↓e_X5_step_116, ↓e_X5_step_123, ↓e_X5_step_127, ↓e_X5_step_131, ↓e_X5_step_136, ↓e_X5_step_141, g5 o5_24, Nat.reduceAdd, hx'.1, nI_lt_iff n1 n1, Nat.lt_irrefl, zk_i, zk_r, zk_n, ↓reduceIte]
      exact q
    | succ k ihk =>
      intro j f' hjk hij hf h3' h5
      have hx' := Fr_x hf hx
      have hj : j < nl := by omega
      have r := ri_k i18 (show j < 240 by omega) (by decide) E (f', t)
      have e18 : f' 18 j = tx j := (hx'.2.2.1 j hj).1
      by_cases q : tx j = 32
      · obtain ⟨f2, hf2⟩ : ∃ g : Nat → Nat → Int32, g = set2 f' 24 3 (nI (j + 1)) := ⟨_, rfl⟩
        have w := fun K => (p5 o5_24).2.1 (f', t) (nI (j + 1)) K
        dsimp only at w
        rw [← hf2] at w
        have nx := ihk (j + 1) f2 (by omega) (by omega) (by rw [hf2]; exact Fr_s (by decide) _ hf) (by rw [hf2, set2_s]) (fun m h1 h2 => by
          by_cases e : m = j
          · subst e
            exact q
          · exact h5 m h1 (by omega))
        have q' : (tx j = 32) = True := eq_true q
        rw [e_X5_step_5]
        simp only [↓e_X5_step_4, ↓e_X5_step_10, ↓e_X5_step_13, ↓e_X5_step_17, ↓e_X5_step_19, ↓e_X5_step_24, ↓e_X5_step_31, ↓e_X5_step_42, ↓e_X5_step_45, ↓e_X5_step_49, ↓e_X5_step_53, ↓e_X5_step_56, ↓e_X5_step_60, ↓e_X5_step_64, ↓e_X5_step_65, ↓e_X5_step_68, ↓e_X5_step_69, ↓e_X5_step_75, ↓e_X5_step_80, ↓e_X5_step_83, ↓e_X5_step_87, ↓e_X5_step_90, ↓e_X5_step_95, ↓e_X5_step_99, ↓e_X5_step_102, ↓e_X5_step_106, ↓e_X5_step_109, ↓e_X5_step_113, ↓e_X5_step_116, ↓e_X5_step_123, ↓e_X5_step_127, ↓e_X5_step_131, ↓e_X5_step_136, ↓e_X5_step_141, g5 o5_24, Nat.reduceAdd, hx'.1, ht, nI_lt_iff (show j < 2 ^ 31 by omega) (show nl < 2 ^ 31 by omega), hj, r, e18, q', nI_1, w, zk_i, zk_r, zk_n, ↓reduceIte]
        exact nx
      · have g := fin j f' hij (by omega) hf h3' h5 q (some (.int (nI j)))
        rw [e_X5_step_5]
        simp only [↓e_X5_step_4, ↓e_X5_step_10, ↓e_X5_step_13, ↓e_X5_step_17, ↓e_X5_step_19, ↓e_X5_step_24, ↓e_X5_step_31, ↓e_X5_step_42, ↓e_X5_step_45, ↓e_X5_step_49, ↓e_X5_step_53, ↓e_X5_step_56, ↓e_X5_step_60, ↓e_X5_step_64, ↓e_X5_step_65, ↓e_X5_step_68, ↓e_X5_step_69, ↓e_X5_step_75, ↓e_X5_step_80, ↓e_X5_step_83, ↓e_X5_step_87, ↓e_X5_step_90, ↓e_X5_step_95, ↓e_X5_step_99, ↓e_X5_step_102, ↓e_X5_step_106, ↓e_X5_step_109, ↓e_X5_step_113, ↓e_X5_step_116, ↓e_X5_step_123, ↓e_X5_step_127, ↓e_X5_step_131, ↓e_X5_step_136, ↓e_X5_step_141, g5 o5_24, Nat.reduceAdd, hx'.1, ht, nI_lt_iff (show j < 2 ^ 31 by omega) (show nl < 2 ^ 31 by omega), hj, r, e18, q, zk_i, zk_r, zk_n, ↓reduceIte]
        exact g
  have start := loop (nl - i) i f (by omega) (Nat.le_refl i) (Fr_r f) h3 (fun m h1 h2 => by omega)
  simp only [↓c_X5_step, ↓e_X5_step_0, ↓e_X5_step_4, ↓e_X5_step_10, ↓e_X5_step_13, ↓e_X5_step_17, ↓e_X5_step_19, ↓e_X5_step_24, ↓e_X5_step_31, ↓e_X5_step_42, ↓e_X5_step_45, ↓e_X5_step_49, ↓e_X5_step_53, ↓e_X5_step_56, ↓e_X5_step_60, ↓e_X5_step_64, ↓e_X5_step_65, ↓e_X5_step_68, ↓e_X5_step_69, ↓e_X5_step_75, ↓e_X5_step_80, ↓e_X5_step_83, ↓e_X5_step_87, ↓e_X5_step_90, ↓e_X5_step_95, ↓e_X5_step_99, ↓e_X5_step_102, ↓e_X5_step_106, ↓e_X5_step_109, ↓e_X5_step_113, ↓e_X5_step_116, ↓e_X5_step_123, ↓e_X5_step_127, ↓e_X5_step_131, ↓e_X5_step_136, ↓e_X5_step_141, g5 o5_24, h3, zk_i, zk_r, zk_n]
  exact start
end RS
