/-! READ: what a draft holds, and the two of them together -/
section F15
variable {tx : Nat → Int32} {nl : Nat}
def VD (D : Nat → Int32) (np nc ns : Nat) : Prop := (∀ p, p < np → rg (D (3 * p)) 0 6 ∧ rg (D (3 * p + 1)) 0 60 ∧ rg (D (3 * p + 2)) 0 9) ∧ (∀ c, c < nc → rg (D (36 + 5 * c)) 1 9 ∧ rg (D (36 + 5 * c + 1)) 0 9 ∧ rg (D (36 + 5 * c + 2)) 0 9 ∧ rg (D (36 + 5 * c + 3)) 0 9 ∧ rg (D (36 + 5 * c + 4)) 0 19) ∧ (∀ x, x < 18 → orN (D (66 + x)) np) ∧ (∀ s, s < ns → rg (D (90 + 2 * s)) 1 20 ∧ rg (D (90 + 2 * s + 1)) 0 63) ∧ (∀ j, 18 ≤ j → j < 30 → D j = -1) ∧ (∀ j, 30 ≤ j → j < 36 → D j = 0) ∧ ∀ j, 84 ≤ j → j < 90 → D j = 0
def VDs (S : Dr) : Prop := VD S.1 S.2.1 S.2.2.1 S.2.2.2
theorem num_rg {i lo hb n e b : Nat} (h : Num tx i lo hb n e) (hb' : hb = b + 1) : rg (nI n) lo b := ⟨n, h.1, by have := h.2.1; omega, rfl⟩
theorem orN_s {x : Int32} {n : Nat} (h : orN x n) : orN x (n + 1) := by
  rcases h with h | ⟨j, h1, h2⟩
  · exact Or.inl h
  · exact Or.inr ⟨j, by omega, h2⟩
theorem wi_or {np : Nat} : ∀ k i c (w w' : Nat → Int32) i', (∀ j, j < 3 → orN (w j) np) → WiS tx np k i c w w' i' → ∀ j, j < 3 → orN (w' j) np
  | 0, _, _, w, w', _, h, hS => by
    rw [hS.1]
    exact h
  | k + 1, i, c, w, w', i', h, hS => by
    obtain ⟨n, e, h3, hN, -, hS⟩ := hS
    refine wi_or k e (c + 1) (upd w c (nI n)) w' i' (fun j hj => ?_) hS
    by_cases q : j = c
    · rw [q, uS]
      exact Or.inr ⟨n, hN.2.1, rfl⟩
    · rw [uN q]
      exact h j hj
theorem vd_step {D D' : Nat → Int32} {np nc ns np' nc' ns' i i' : Nat} (hI : DI D np nc ns) (h : VD D np nc ns) (hS : StepP tx D np nc ns i D' np' nc' ns' i') : VD D' np' nc' ns' := by
  obtain ⟨i1, i2, i3, -⟩ := hI
  obtain ⟨v1, v2, v3, v4, v5, v6, v7⟩ := h
  obtain ⟨s, e, v, -, hS⟩ := hS
  rcases hS with ⟨hw, hn, a, b, c, hNs, eD, e1, e2, e3⟩ | ⟨hw, hn, a, b, c, g, o, hNs, eD, e1, e2, e3⟩ | ⟨hw, hn, m, mask, k, q, hN, -, hSc, eD, e1, e2, e3⟩ | ⟨hw, x, w, k, q, hN, -, hWi, eD, e1, e2, e3⟩
  · subst eD e1 e2 e3
    obtain ⟨n1, e1, x1, hv1, N1, n2, e2, x2, hv2, N2, n3, e3, x3, hv3, N3, hv4, hSt⟩ := hNs
    cases hv1
    cases hv2
    cases hv3
    unfold dPart
    refine ⟨fun p hp => ?_, fun c hc => ?_, fun x hx => ?_, fun s hs => ?_, fun j h1 h2 => ?_, fun j h1 h2 => ?_, fun j h1 h2 => ?_⟩
    · by_cases q : p = np
      · subst q
        rw [uN (by omega), uN (by omega), uN (by omega), uS, uN (by omega), uN (by omega), uS, uN (by omega), uS]
        exact ⟨num_rg N1 rfl, num_rg N2 rfl, num_rg N3 rfl⟩
      · rw [uN (by omega), uN (by omega), uN (by omega), uN (by omega), uN (by omega), uN (by omega), uN (by omega), uN (by omega), uN (by omega), uN (by omega), uN (by omega), uN (by omega)]
        exact v1 p (by omega)
    · have := v2 c hc
      refine ⟨?_, ?_, ?_, ?_, ?_⟩
      · rw [uN (by omega), uN (by omega), uN (by omega), uN (by omega)]; exact this.1
      · rw [uN (by omega), uN (by omega), uN (by omega), uN (by omega)]; exact this.2.1
      · rw [uN (by omega), uN (by omega), uN (by omega), uN (by omega)]; exact this.2.2.1
      · rw [uN (by omega), uN (by omega), uN (by omega), uN (by omega)]; exact this.2.2.2.1
      · rw [uN (by omega), uN (by omega), uN (by omega), uN (by omega)]; exact this.2.2.2.2
    · rw [uN (by omega), uN (by omega), uN (by omega), uN (by omega)]
      exact orN_s (v3 x hx)
    · have := v4 s hs
      refine ⟨?_, ?_⟩
      · rw [uN (by omega), uN (by omega), uN (by omega), uN (by omega)]; exact this.1
      · rw [uN (by omega), uN (by omega), uN (by omega), uN (by omega)]; exact this.2
    · rw [uN (by omega), uN (by omega), uN (by omega), uN (by omega)]; exact v5 j h1 h2
    · rw [uN (by omega), uN (by omega), uN (by omega), uN (by omega)]; exact v6 j h1 h2
    · rw [uN (by omega), uN (by omega), uN (by omega), uN (by omega)]; exact v7 j h1 h2
  · subst eD e1 e2 e3
    obtain ⟨n1, e1, x1, hv1, N1, n2, e2, x2, hv2, N2, n3, e3, x3, hv3, N3, n4, e4, x4, hv4, N4, n5, e5, x5, hv5, N5, hv6, hSt⟩ := hNs
    cases hv1
    cases hv2
    cases hv3
    cases hv4
    cases hv5
    unfold dChild
    refine ⟨fun p hp => ?_, fun c' hc => ?_, fun x hx => ?_, fun s hs => ?_, fun j h1 h2 => ?_, fun j h1 h2 => ?_, fun j h1 h2 => ?_⟩
    · have := v1 p hp
      refine ⟨?_, ?_, ?_⟩
      · rw [uN (by omega), uN (by omega), uN (by omega), uN (by omega), uN (by omega), uN (by omega)]; exact this.1
      · rw [uN (by omega), uN (by omega), uN (by omega), uN (by omega), uN (by omega), uN (by omega)]; exact this.2.1
      · rw [uN (by omega), uN (by omega), uN (by omega), uN (by omega), uN (by omega), uN (by omega)]; exact this.2.2
    · by_cases q : c' = nc
      · subst q
        refine ⟨?_, ?_, ?_, ?_, ?_⟩
        · rw [uN (by omega), uN (by omega), uN (by omega), uN (by omega), uN (by omega), uS]; exact num_rg N1 rfl
        · rw [uN (by omega), uN (by omega), uN (by omega), uN (by omega), uS]; exact num_rg N2 rfl
        · rw [uN (by omega), uN (by omega), uN (by omega), uS]; exact num_rg N3 rfl
        · rw [uN (by omega), uN (by omega), uS]; exact num_rg N4 rfl
        · rw [uN (by omega), uS]; exact num_rg N5 rfl
      · have := v2 c' (by omega)
        refine ⟨?_, ?_, ?_, ?_, ?_⟩
        · rw [uN (by omega), uN (by omega), uN (by omega), uN (by omega), uN (by omega), uN (by omega)]; exact this.1
        · rw [uN (by omega), uN (by omega), uN (by omega), uN (by omega), uN (by omega), uN (by omega)]; exact this.2.1
        · rw [uN (by omega), uN (by omega), uN (by omega), uN (by omega), uN (by omega), uN (by omega)]; exact this.2.2.1
        · rw [uN (by omega), uN (by omega), uN (by omega), uN (by omega), uN (by omega), uN (by omega)]; exact this.2.2.2.1
        · rw [uN (by omega), uN (by omega), uN (by omega), uN (by omega), uN (by omega), uN (by omega)]; exact this.2.2.2.2
    · rw [uN (by omega), uN (by omega), uN (by omega), uN (by omega), uN (by omega), uN (by omega)]
      exact v3 x hx
    · have := v4 s hs
      refine ⟨?_, ?_⟩
      · rw [uN (by omega), uN (by omega), uN (by omega), uN (by omega), uN (by omega), uN (by omega)]; exact this.1
      · rw [uN (by omega), uN (by omega), uN (by omega), uN (by omega), uN (by omega), uN (by omega)]; exact this.2
    · rw [uN (by omega), uN (by omega), uN (by omega), uN (by omega), uN (by omega), uN (by omega)]; exact v5 j h1 h2
    · rw [uN (by omega), uN (by omega), uN (by omega), uN (by omega), uN (by omega), uN (by omega)]; exact v6 j h1 h2
    · rw [uN (by omega), uN (by omega), uN (by omega), uN (by omega), uN (by omega), uN (by omega)]; exact v7 j h1 h2
  · subst eD e1 e2 e3
    unfold dScene
    have ml := sc_lt i1 _ _ _ _ _ _ (by decide) hSc
    refine ⟨fun p hp => ?_, fun c' hc => ?_, fun x hx => ?_, fun s hs => ?_, fun j h1 h2 => ?_, fun j h1 h2 => ?_, fun j h1 h2 => ?_⟩
    · have := v1 p hp
      refine ⟨?_, ?_, ?_⟩
      · rw [uN (by omega), uN (by omega), uN (by omega)]; exact this.1
      · rw [uN (by omega), uN (by omega), uN (by omega)]; exact this.2.1
      · rw [uN (by omega), uN (by omega), uN (by omega)]; exact this.2.2
    · have := v2 c' hc
      refine ⟨?_, ?_, ?_, ?_, ?_⟩
      · rw [uN (by omega), uN (by omega), uN (by omega)]; exact this.1
      · rw [uN (by omega), uN (by omega), uN (by omega)]; exact this.2.1
      · rw [uN (by omega), uN (by omega), uN (by omega)]; exact this.2.2.1
      · rw [uN (by omega), uN (by omega), uN (by omega)]; exact this.2.2.2.1
      · rw [uN (by omega), uN (by omega), uN (by omega)]; exact this.2.2.2.2
    · rw [uN (by omega), uN (by omega), uN (by omega)]
      exact v3 x hx
    · by_cases q : s = ns
      · subst q
        refine ⟨?_, ?_⟩
        · rw [uN (by omega), uN (by omega), uS]; exact num_rg hN rfl
        · rw [uN (by omega), uS]; exact ⟨mask, by omega, by omega, rfl⟩
      · have := v4 s (by omega)
        refine ⟨?_, ?_⟩
        · rw [uN (by omega), uN (by omega), uN (by omega)]; exact this.1
        · rw [uN (by omega), uN (by omega), uN (by omega)]; exact this.2
    · rw [uN (by omega), uN (by omega), uN (by omega)]; exact v5 j h1 h2
    · rw [uN (by omega), uN (by omega), uN (by omega)]; exact v6 j h1 h2
    · rw [uN (by omega), uN (by omega), uN (by omega)]; exact v7 j h1 h2
  · subst eD e1 e2 e3
    have hx6 := hN.2.1
    have wo := wi_or _ _ _ _ _ _ (fun _ _ => Or.inl rfl) hWi
    unfold dWish
    refine ⟨fun p hp => ?_, fun c' hc => ?_, fun y hy => ?_, fun s hs => ?_, fun j h1 h2 => ?_, fun j h1 h2 => ?_, fun j h1 h2 => ?_⟩
    · have := v1 p hp
      refine ⟨?_, ?_, ?_⟩
      · rw [uN (by omega), uN (by omega), uN (by omega)]; exact this.1
      · rw [uN (by omega), uN (by omega), uN (by omega)]; exact this.2.1
      · rw [uN (by omega), uN (by omega), uN (by omega)]; exact this.2.2
    · have := v2 c' hc
      refine ⟨?_, ?_, ?_, ?_, ?_⟩
      · rw [uN (by omega), uN (by omega), uN (by omega)]; exact this.1
      · rw [uN (by omega), uN (by omega), uN (by omega)]; exact this.2.1
      · rw [uN (by omega), uN (by omega), uN (by omega)]; exact this.2.2.1
      · rw [uN (by omega), uN (by omega), uN (by omega)]; exact this.2.2.2.1
      · rw [uN (by omega), uN (by omega), uN (by omega)]; exact this.2.2.2.2
    · unfold upd
      by_cases q2 : 66 + y = 66 + 3 * x + 2
      · rw [if_pos q2]; exact wo 2 (by decide)
      · rw [if_neg q2]
        by_cases q1 : 66 + y = 66 + 3 * x + 1
        · rw [if_pos q1]; exact wo 1 (by decide)
        · rw [if_neg q1]
          by_cases q0 : 66 + y = 66 + 3 * x
          · rw [if_pos q0]; exact wo 0 (by decide)
          · rw [if_neg q0]; exact v3 y hy
    · have := v4 s hs
      refine ⟨?_, ?_⟩
      · rw [uN (by omega), uN (by omega), uN (by omega)]; exact this.1
      · rw [uN (by omega), uN (by omega), uN (by omega)]; exact this.2
    · rw [uN (by omega), uN (by omega), uN (by omega)]; exact v5 j h1 h2
    · rw [uN (by omega), uN (by omega), uN (by omega)]; exact v6 j h1 h2
    · rw [uN (by omega), uN (by omega), uN (by omega)]; exact v7 j h1 h2
theorem vd_run : ∀ n (S S' : Dr) i i', DIs S → VDs S → RunP tx n S i S' i' → VDs S' ∧ i + n ≤ i'
  | 0, S, S', i, i', hI, hV, hR => by
    obtain ⟨e1, e2⟩ := hR
    subst e1
    subst e2
    exact ⟨hV, Nat.le_refl _⟩
  | n + 1, S, S', i, i', hI, hV, hR => by
    obtain ⟨S1, i1, hS, hR⟩ := hR
    have lt := step_lt hS
    obtain ⟨h1, h2⟩ := vd_run n S1 S' i1 i' (di_step hI hS) (vd_step hI hV hS) hR
    exact ⟨h1, by omega⟩
theorem vd_z : VDs Sz := by
  refine ⟨fun p hp => absurd hp (Nat.not_lt_zero p), fun p hp => absurd hp (Nat.not_lt_zero p), fun x hx => Or.inl ?_, fun p hp => absurd hp (Nat.not_lt_zero p), fun j h1 h2 => ?_, fun j h1 h2 => ?_, fun j h1 h2 => ?_⟩
  · show Dz (66 + x) = -1
    unfold Dz
    rw [if_pos (by omega)]
  · show Dz j = -1
    unfold Dz
    rw [if_pos (by omega)]
  · show Dz j = 0
    unfold Dz
    rw [if_neg (by omega)]
  · show Dz j = 0
    unfold Dz
    rw [if_neg (by omega)]
theorem bgF_at (f : Nat → Nat → Int32) : ∀ n, (∀ a, a ≠ 14 → a ≠ 15 → a ≠ 16 → itr (bgF 1) n f a = f a) ∧ ∀ p, p < n → itr (bgF 1) n f 14 p = -1 ∧ itr (bgF 1) n f 15 p = -1 ∧ itr (bgF 1) n f 16 p = 0
  | 0 => ⟨fun _ _ _ _ => rfl, fun p hp => absurd hp (Nat.not_lt_zero p)⟩
  | n + 1 => by
    obtain ⟨h1, h2⟩ := bgF_at f n
    show (∀ a, a ≠ 14 → a ≠ 15 → a ≠ 16 → bgF 1 n (itr (bgF 1) n f) a = f a) ∧ ∀ p, p < n + 1 → bgF 1 n (itr (bgF 1) n f) 14 p = -1 ∧ bgF 1 n (itr (bgF 1) n f) 15 p = -1 ∧ bgF 1 n (itr (bgF 1) n f) 16 p = 0
    generalize itr (bgF 1) n f = g at h1 h2 ⊢
    unfold bgF
    refine ⟨fun a a1 a2 a3 => ?_, fun p hp => ?_⟩
    · rw [set2_a a3, set2_a a2, set2_a a1]
      exact h1 a a1 a2 a3
    · by_cases e : p = n
      · subst e
        refine ⟨?_, ?_, ?_⟩
        · rw [set2_a (by decide), set2_a (by decide), set2_s]
        · rw [set2_a (by decide), set2_s]
        · rw [set2_s]
      · obtain ⟨g1', g2', g3'⟩ := h2 p (by omega)
        refine ⟨?_, ?_, ?_⟩
        · rw [set2_a (by decide), set2_a (by decide), set2_n (Or.inr e)]; exact g1'
        · rw [set2_a (by decide), set2_n (Or.inr e), set2_a (by decide)]; exact g2'
        · rw [set2_n (Or.inr e), set2_a (by decide), set2_a (by decide)]; exact g3'
theorem bg2_at (f : Nat → Nat → Int32) : ∀ n, (∀ a, a ≠ 17 → itr (bg2 1) n f a = f a) ∧ ∀ p, p < n → itr (bg2 1) n f 17 p = 0
  | 0 => ⟨fun _ _ => rfl, fun p hp => absurd hp (Nat.not_lt_zero p)⟩
  | n + 1 => by
    obtain ⟨h1, h2⟩ := bg2_at f n
    show (∀ a, a ≠ 17 → bg2 1 n (itr (bg2 1) n f) a = f a) ∧ ∀ p, p < n + 1 → bg2 1 n (itr (bg2 1) n f) 17 p = 0
    generalize itr (bg2 1) n f = g at h1 h2 ⊢
    unfold bg2
    refine ⟨fun a a1 => ?_, fun p hp => ?_⟩
    · rw [set2_a a1]
      exact h1 a a1
    · by_cases e : p = n
      · subst e
        rw [set2_s]
      · rw [set2_n (Or.inr e)]
        exact h2 p (by omega)
end F15
