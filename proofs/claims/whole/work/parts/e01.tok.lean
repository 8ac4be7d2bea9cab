/-! READ: tokens, in the class -/
def ltB (x : Int32) : Bool := !decide (x < 97) && !decide (122 < x)
def fgB (x : Int32) : Bool := !decide (x < 48) && !decide (57 < x)
def sgP (tx : Nat → Int32) (g : Int32 → Bool) (s e : Nat) : Prop := (∀ j, s ≤ j → j < e → g (tx j) = true) ∧ g (tx e) = false
def v1N (tx : Nat → Int32) (s : Nat) : Int32 := 10 * 0 + tx s - 48
def v2N (tx : Nat → Int32) (s : Nat) : Int32 := 10 * v1N tx s + tx (s + 1) - 48
def vlN (tx : Nat → Int32) (s e : Nat) : Int32 := if e = s + 1 then v1N tx s else v2N tx s
def Tok (tx : Nat → Int32) (i s e : Nat) (k v : Int32) : Prop := i ≤ s ∧ (∀ j, i ≤ j → j < s → tx j = 32) ∧ ¬ tx s = 32 ∧
  ((tx s = -1 ∧ e = s ∧ k = 0) ∨ (¬ tx s = -1 ∧ ltB (tx s) = true ∧ sgP tx ltB s e ∧ s < e ∧ k = 1) ∨
  (¬ tx s = -1 ∧ ltB (tx s) = false ∧ fgB (tx s) = true ∧ sgP tx fgB s e ∧ s < e ∧ ((e ≤ s + 2 ∧ k = 2 ∧ v = vlN tx s e) ∨ (s + 2 < e ∧ k = 4))) ∨
  (¬ tx s = -1 ∧ ltB (tx s) = false ∧ fgB (tx s) = false ∧ e = s + 1 ∧ k = if tx s = 59 then 3 else 4))
def RX (f : Nat → Nat → Int32) (tx : Nat → Int32) (nl : Nat) : Prop := f 24 2 = nI nl ∧ nl ≤ 240 ∧ (∀ j, j < nl → f 18 j = tx j ∧ ¬ tx j = -1) ∧ ∀ j, nl ≤ j → tx j = -1
theorem RX_c {f f' : Nat → Nat → Int32} {tx : Nat → Int32} {nl : Nat} (h1 : f' 18 = f 18) (h2 : f' 24 2 = f 24 2) (h : RX f tx nl) : RX f' tx nl := by
  unfold RX
  rw [h1, h2]
  exact h
theorem x_isLetter (E : zE) (d : Nat) (x : Int32) (h : zH) (K : Option Value → zH → Prop) : Cl E d 56 [.int x] h K = K (some (.int (bI (ltB x)))) h := by
  unfold ltB
  by_cases h1 : x < 97
  · simp only [↓c_X5_isLetter, ↓e_X5_isLetter_0, ↓e_X5_isLetter_6, ↓e_X5_isLetter_12, ↓e_X5_isLetter_16, ↓e_X5_isLetter_17, h1, decide_true, Bool.not_true, Bool.false_and, bI_f, true_or, true_and, zk_i, zk_r, zk_n, ↓reduceIte]
  · by_cases h2 : 122 < x
    · simp only [↓c_X5_isLetter, ↓e_X5_isLetter_0, ↓e_X5_isLetter_6, ↓e_X5_isLetter_12, ↓e_X5_isLetter_16, ↓e_X5_isLetter_17, h1, h2, decide_true, decide_false, Bool.not_true, Bool.not_false, Bool.and_false, bI_f, true_or, true_and, zk_i, zk_r, zk_n, ↓reduceIte]
    · simp only [↓c_X5_isLetter, ↓e_X5_isLetter_0, ↓e_X5_isLetter_6, ↓e_X5_isLetter_12, ↓e_X5_isLetter_16, ↓e_X5_isLetter_17, h1, h2, decide_false, Bool.not_false, Bool.and_true, bI_t, or_true, true_and, zk_i, zk_r, zk_n, ↓reduceIte]
theorem x_isFigure (E : zE) (d : Nat) (x : Int32) (h : zH) (K : Option Value → zH → Prop) : Cl E d 57 [.int x] h K = K (some (.int (bI (fgB x)))) h := by
  unfold fgB
  by_cases h1 : x < 48
  · simp only [↓c_X5_isFigure, ↓e_X5_isFigure_0, ↓e_X5_isFigure_6, ↓e_X5_isFigure_12, ↓e_X5_isFigure_16, ↓e_X5_isFigure_17, h1, decide_true, Bool.not_true, Bool.false_and, bI_f, true_or, true_and, zk_i, zk_r, zk_n, ↓reduceIte]
  · by_cases h2 : 57 < x
    · simp only [↓c_X5_isFigure, ↓e_X5_isFigure_0, ↓e_X5_isFigure_6, ↓e_X5_isFigure_12, ↓e_X5_isFigure_16, ↓e_X5_isFigure_17, h1, h2, decide_true, decide_false, Bool.not_true, Bool.not_false, Bool.and_false, bI_f, true_or, true_and, zk_i, zk_r, zk_n, ↓reduceIte]
    · simp only [↓c_X5_isFigure, ↓e_X5_isFigure_0, ↓e_X5_isFigure_6, ↓e_X5_isFigure_12, ↓e_X5_isFigure_16, ↓e_X5_isFigure_17, h1, h2, decide_false, Bool.not_false, Bool.and_true, bI_t, or_true, true_and, zk_i, zk_r, zk_n, ↓reduceIte]
theorem lt_m : ltB (-1) = false := by decide
theorem fg_m : fgB (-1) = false := by decide
section RC
variable {tx : Nat → Int32} {nl : Nat}
/-- what the reader may change while it steps -/
def Fr (f f' : Nat → Nat → Int32) : Prop := (∀ a, a ≠ 24 → f' a = f a) ∧ f' 24 2 = f 24 2
theorem Fr_r (f : Nat → Nat → Int32) : Fr f f := ⟨fun _ _ => rfl, rfl⟩
theorem Fr_s {f f' : Nat → Nat → Int32} {k : Nat} (hk : k ≠ 2) (x : Int32) (h : Fr f f') : Fr f (set2 f' 24 k x) := ⟨fun a ha => by rw [set2_a ha]; exact h.1 a ha, by rw [set2_n (Or.inr (fun e => hk e.symm))]; exact h.2⟩
theorem Fr_x {f f' : Nat → Nat → Int32} (h : Fr f f') (hx : RX f tx nl) : RX f' tx nl := RX_c (h.1 18 (by decide)) h.2 hx
theorem Fr_t {f f' f'' : Nat → Nat → Int32} (h : Fr f f') (h' : Fr f' f'') : Fr f f'' := ⟨fun a ha => by rw [h'.1 a ha, h.1 a ha], by rw [h'.2, h.2]⟩
theorem x_passLetters (E : zE) (d : Nat) {f : Nat → Nat → Int32} {t : (Nat → Nat → Int64) × Nat} (ht : t.2 = 18) (hx : RX f tx nl) {s : Nat} (hs : s < nl) (h3 : f 24 3 = nI s) (h4 : f 24 4 = nI s) (hl : ltB (tx s) = true) : Hr E (d + 1) 54 [.ref 24] (f, t) (fun v z' => v = none ∧ z'.2 = t ∧ Fr f z'.1 ∧ (∀ k, k ≠ 3 → z'.1 24 k = f 24 k) ∧ ∃ e, s < e ∧ e ≤ nl ∧ sgP tx ltB s e ∧ z'.1 24 3 = nI e) := by
  unfold Hr
  generalize hQ : (fun (v : Option Value) (h : zH) => ∃ z' : zS, h = HP z' ∧ (v = none ∧ z'.2 = t ∧ Fr f z'.1 ∧ (∀ k, k ≠ 3 → z'.1 24 k = f 24 k) ∧ ∃ e, s < e ∧ e ≤ nl ∧ sgP tx ltB s e ∧ z'.1 24 3 = nI e)) = Q
  have fin : ∀ j f', s ≤ j → j ≤ nl → Fr f f' → (∀ k, k ≠ 3 → f' 24 k = f 24 k) → f' 24 3 = nI j → (∀ m, s ≤ m → m < j → ltB (tx m) = true) → ltB (tx j) = false → Q none (HP (f', t)) := fun j f' h1 h2 hf hk h3 h5 h6 => by
    rw [← hQ]
    have : s ≠ j := fun e => by
      subst e
      rw [hl] at h6
      exact absurd h6 (by decide)
    exact ⟨(f', t), rfl, rfl, rfl, hf, hk, j, by omega, h2, ⟨h5, h6⟩, h3⟩
  have loop : ∀ k j (f' : Nat → Nat → Int32), j + k = nl → s ≤ j → Fr f f' → (∀ k, k ≠ 3 → f' 24 k = f 24 k) → f' 24 3 = nI j → (∀ m, s ≤ m → m < j → ltB (tx m) = true) → Ev E (d + 1) zm_X5_passLetters 5 [some (.ref 24), some (.int (nI j))] [] (HP (f', t)) Q := by
    intro k
    induction k with
    | zero =>
      intro j f' hjk hsj hf hk h3' h5
      have e : j = nl := by omega
      subst e
      have hx' := Fr_x hf hx
      have q := fin j f' hsj (Nat.le_refl j) hf hk h3' h5 (by rw [hx.2.2.2 j (Nat.le_refl j)]; exact lt_m)
      have n1 : j < 2 ^ 31 := by have := hx.2.1; omega
      rw [e_X5_passLetters_5]
      simp only [↓e_X5_passLetters_4, ↓e_X5_passLetters_10, ↓e_X5_passLetters_13, ↓e_X5_passLetters_17, ↓e_X5_passLetters_19, ↓e_X5_passLetters_22, ↓e_X5_passLetters_25, ↓e_X5_passLetters_32, ↓e_X5_passLetters_38, g5 o5_24, Nat.reduceAdd, hx'.1, nI_lt_iff n1 n1, Nat.lt_irrefl, zk_i, zk_r, zk_n, ↓reduceIte]
      exact q
    | succ k ihk =>
      intro j f' hjk hsj hf hk h3' h5
      have hx' := Fr_x hf hx
      have hj : j < nl := by omega
      have h240 := hx.2.1
      have r := ri_k i18 (show j < 240 by omega) (by decide) E (f', t)
      have e18 : f' 18 j = tx j := (hx'.2.2.1 j hj).1
      cases hb : ltB (tx j) with
      | false =>
        have q := fin j f' hsj (by omega) hf hk h3' h5 hb
        rw [e_X5_passLetters_5]
        simp only [↓e_X5_passLetters_4, ↓e_X5_passLetters_10, ↓e_X5_passLetters_13, ↓e_X5_passLetters_17, ↓e_X5_passLetters_19, ↓e_X5_passLetters_22, ↓e_X5_passLetters_25, ↓e_X5_passLetters_32, ↓e_X5_passLetters_38, g5 o5_24, Nat.reduceAdd, hx'.1, ht, nI_lt_iff (show j < 2 ^ 31 by omega) (show nl < 2 ^ 31 by omega), hj, r, e18, x_isLetter, hb, zps_s, bI_f, zk_i, zk_r, zk_n, ↓reduceIte]
        exact q
      | true =>
        obtain ⟨f2, hf2⟩ : ∃ g : Nat → Nat → Int32, g = set2 f' 24 3 (nI (j + 1)) := ⟨_, rfl⟩
        have w := fun K => (p5 o5_24).2.1 (f', t) (nI (j + 1)) K
        dsimp only at w
        rw [← hf2] at w
        have nx := ihk (j + 1) f2 (by omega) (by omega) (by rw [hf2]; exact Fr_s (by decide) _ hf) (fun k hk' => by rw [hf2, set2_n (Or.inr hk')]; exact hk k hk') (by rw [hf2, set2_s]) (fun m h1 h2 => by
          by_cases e : m = j
          · subst e
            exact hb
          · exact h5 m h1 (by omega))
        rw [e_X5_passLetters_5]
        simp only [↓e_X5_passLetters_4, ↓e_X5_passLetters_10, ↓e_X5_passLetters_13, ↓e_X5_passLetters_17, ↓e_X5_passLetters_19, ↓e_X5_passLetters_22, ↓e_X5_passLetters_25, ↓e_X5_passLetters_32, ↓e_X5_passLetters_38, g5 o5_24, Nat.reduceAdd, hx'.1, ht, nI_lt_iff (show j < 2 ^ 31 by omega) (show nl < 2 ^ 31 by omega), hj, r, e18, x_isLetter, hb, zps_s, bI_t, i01, nI_1, w, zk_i, zk_r, zk_n, ↓reduceIte]
        exact nx
  have start := loop (nl - s) s f (by omega) (Nat.le_refl s) (Fr_r f) (fun _ _ => rfl) h3 (fun m h1 h2 => by omega)
  simp only [↓c_X5_passLetters, ↓e_X5_passLetters_0, ↓e_X5_passLetters_4, ↓e_X5_passLetters_10, ↓e_X5_passLetters_13, ↓e_X5_passLetters_17, ↓e_X5_passLetters_19, ↓e_X5_passLetters_22, ↓e_X5_passLetters_25, ↓e_X5_passLetters_32, ↓e_X5_passLetters_38, g5 o5_24, h4, zk_i, zk_r, zk_n]
  exact start
theorem fg_d {x : Int32} (h : fgB x = true) : ∃ n, n ≤ 9 ∧ x = nI (48 + n) := by
  unfold fgB at h
  rw [Bool.and_eq_true, Bool.not_eq_true', Bool.not_eq_true', decide_eq_false_iff_not, decide_eq_false_iff_not, Int32.lt_iff_toInt_lt, Int32.lt_iff_toInt_lt] at h
  have e1 : (48 : Int32).toInt = 48 := by decide
  have e2 : (57 : Int32).toInt = 57 := by decide
  rw [e1, e2] at h
  refine ⟨x.toInt.toNat - 48, by omega, ?_⟩
  rw [← Int32.toInt_inj, nI_toInt (by omega)]
  omega
theorem v1_n : ∀ n, n < 10 → (10 : Int32) * 0 + nI (48 + n) - 48 = nI n := by decide +kernel
theorem v2_n : ∀ m, m < 10 → ∀ n, n < 10 → (10 : Int32) * nI m + nI (48 + n) - 48 = nI (10 * m + n) := by decide +kernel
theorem v1_lt {s : Nat} (h : fgB (tx s) = true) : ∃ n, n ≤ 9 ∧ v1N tx s = nI n := by
  obtain ⟨n, h1, h2⟩ := fg_d h
  exact ⟨n, h1, by unfold v1N; rw [h2]; exact v1_n n (by omega)⟩
theorem v2_lt {s : Nat} (h : fgB (tx s) = true) (h' : fgB (tx (s + 1)) = true) : ∃ n, n ≤ 99 ∧ v2N tx s = nI n := by
  obtain ⟨m, h1, h2⟩ := v1_lt h
  obtain ⟨n, h3, h4⟩ := fg_d h'
  exact ⟨10 * m + n, by omega, by unfold v2N; rw [h2, h4]; exact v2_n m (by omega) n (by omega)⟩
end RC
