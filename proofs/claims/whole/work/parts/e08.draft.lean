/-! READ: the draft, and one item of the class -/
section RD8
variable {tx : Nat → Int32} {nl : Nat}
theorem uN {g : Nat → Int32} {i j : Nat} {v : Int32} (h : j ≠ i) : upd g i v j = g j := by unfold upd; rw [if_neg h]
theorem uS (g : Nat → Int32) (i : Nat) (v : Int32) : upd g i v i = v := by unfold upd; rw [if_pos rfl]
def DRf (f : Nat → Nat → Int32) (D : Nat → Int32) (np nc ns : Nat) : Prop := np ≤ 6 ∧ nc ≤ 6 ∧ ns ≤ 7 ∧ f 25 0 = nI np ∧ f 25 4 = nI nc ∧ f 25 11 = nI ns ∧ (∀ p, p < np → f 26 p = D (3 * p) ∧ f 27 p = D (3 * p + 1) ∧ f 28 p = D (3 * p + 2)) ∧ (∀ c, c < nc → f 29 c = D (36 + 5 * c) ∧ f 30 c = D (36 + 5 * c + 1) ∧ f 31 c = D (36 + 5 * c + 2) ∧ f 32 c = D (36 + 5 * c + 3) ∧ f 33 c = D (36 + 5 * c + 4)) ∧ (∀ x, x < 18 → f 34 x = D (66 + x)) ∧ ∀ s, s < ns → f 35 s = D (90 + 2 * s) ∧ f 36 s = D (90 + 2 * s + 1)
theorem DR_c {f f' : Nat → Nat → Int32} {D : Nat → Int32} {np nc ns : Nat} (h : ∀ a, 25 ≤ a → a ≤ 36 → f' a = f a) (hD : DRf f D np nc ns) : DRf f' D np nc ns := by
  unfold DRf
  rw [h 25 (by decide) (by decide), h 26 (by decide) (by decide), h 27 (by decide) (by decide), h 28 (by decide) (by decide), h 29 (by decide) (by decide), h 30 (by decide) (by decide), h 31 (by decide) (by decide), h 32 (by decide) (by decide), h 33 (by decide) (by decide), h 34 (by decide) (by decide), h 35 (by decide) (by decide), h 36 (by decide) (by decide)]
  exact hD
def dPart (D : Nat → Int32) (np a b c : Nat) : Nat → Int32 := upd (upd (upd (upd D (3 * np) (nI a)) (3 * np + 1) (nI b)) (3 * np + 2) (nI c)) 104 (nI (np + 1))
def dChild (D : Nat → Int32) (nc a b c g o : Nat) : Nat → Int32 := upd (upd (upd (upd (upd (upd D (36 + 5 * nc) (nI a)) (36 + 5 * nc + 1) (nI b)) (36 + 5 * nc + 2) (nI c)) (36 + 5 * nc + 3) (nI g)) (36 + 5 * nc + 4) (nI o)) 105 (nI (nc + 1))
def dScene (D : Nat → Int32) (ns m k : Nat) : Nat → Int32 := upd (upd (upd D (90 + 2 * ns) (nI m)) (90 + 2 * ns + 1) (nI k)) 106 (nI (ns + 1))
def dWish (D : Nat → Int32) (x : Nat) (w : Nat → Int32) : Nat → Int32 := upd (upd (upd D (66 + 3 * x) (w 0)) (66 + 3 * x + 1) (w 1)) (66 + 3 * x + 2) (w 2)
theorem dr_part {f f' : Nat → Nat → Int32} {D : Nat → Int32} {np nc ns a b c : Nat} (h : DRf f D np nc ns) (hp : np < 6) (hf : Fr (set2 (set2 (set2 (set2 f 25 0 (nI (np + 1))) 26 np (nI a)) 27 np (nI b)) 28 np (nI c)) f') : DRf f' (dPart D np a b c) (np + 1) nc ns := by
  refine DR_c (fun x h1 h2 => hf.1 x (by omega)) ?_
  obtain ⟨h1, h2, h3, h4, h5, h6, h7, h8, h9, h10⟩ := h
  refine ⟨by omega, h2, h3, ?_, ?_, ?_, fun p hp' => ?_, fun q hq => ?_, fun x hx => ?_, fun s hs => ?_⟩
  · rw [set2_a (by decide), set2_a (by decide), set2_a (by decide), set2_s]
  · rw [set2_a (by decide), set2_a (by decide), set2_a (by decide), set2_n (Or.inr (by decide))]
    exact h5
  · rw [set2_a (by decide), set2_a (by decide), set2_a (by decide), set2_n (Or.inr (by decide))]
    exact h6
  · unfold dPart
    by_cases e : p = np
    · subst e
      refine ⟨?_, ?_, ?_⟩
      · rw [set2_a (by decide), set2_a (by decide), set2_s, uN (by omega), uN (by omega), uN (by omega), uS]
      · rw [set2_a (by decide), set2_s, uN (by omega), uN (by omega), uS]
      · rw [set2_s, uN (by omega), uS]
    · obtain ⟨g1', g2', g3'⟩ := h7 p (by omega)
      refine ⟨?_, ?_, ?_⟩
      · rw [set2_a (by decide), set2_a (by decide), set2_n (Or.inr e), set2_a (by decide), uN (by omega), uN (by omega), uN (by omega), uN (by omega)]
        exact g1'
      · rw [set2_a (by decide), set2_n (Or.inr e), set2_a (by decide), set2_a (by decide), uN (by omega), uN (by omega), uN (by omega), uN (by omega)]
        exact g2'
      · rw [set2_n (Or.inr e), set2_a (by decide), set2_a (by decide), set2_a (by decide), uN (by omega), uN (by omega), uN (by omega), uN (by omega)]
        exact g3'
  · obtain ⟨g1', g2', g3', g4', g5'⟩ := h8 q hq
    unfold dPart
    refine ⟨?_, ?_, ?_, ?_, ?_⟩
    all_goals rw [set2_a (by decide), set2_a (by decide), set2_a (by decide), set2_a (by decide), uN (by omega), uN (by omega), uN (by omega), uN (by omega)]; assumption
  · unfold dPart
    rw [set2_a (by decide), set2_a (by decide), set2_a (by decide), set2_a (by decide), uN (by omega), uN (by omega), uN (by omega), uN (by omega)]
    exact h9 x hx
  · obtain ⟨g1', g2'⟩ := h10 s hs
    unfold dPart
    refine ⟨?_, ?_⟩
    all_goals rw [set2_a (by decide), set2_a (by decide), set2_a (by decide), set2_a (by decide), uN (by omega), uN (by omega), uN (by omega), uN (by omega)]; assumption
theorem dr_child {f f' : Nat → Nat → Int32} {D : Nat → Int32} {np nc ns a b c g o : Nat} (h : DRf f D np nc ns) (hp : nc < 6) (hf : Fr (set2 (set2 (set2 (set2 (set2 (set2 f 25 4 (nI (nc + 1))) 29 nc (nI a)) 30 nc (nI b)) 31 nc (nI c)) 32 nc (nI g)) 33 nc (nI o)) f') : DRf f' (dChild D nc a b c g o) np (nc + 1) ns := by
  refine DR_c (fun x h1 h2 => hf.1 x (by omega)) ?_
  obtain ⟨h1, h2, h3, h4, h5, h6, h7, h8, h9, h10⟩ := h
  refine ⟨h1, by omega, h3, ?_, ?_, ?_, fun p hp' => ?_, fun q hq => ?_, fun x hx => ?_, fun s hs => ?_⟩
  · rw [set2_a (by decide), set2_a (by decide), set2_a (by decide), set2_a (by decide), set2_a (by decide), set2_n (Or.inr (by decide))]
    exact h4
  · rw [set2_a (by decide), set2_a (by decide), set2_a (by decide), set2_a (by decide), set2_a (by decide), set2_s]
  · rw [set2_a (by decide), set2_a (by decide), set2_a (by decide), set2_a (by decide), set2_a (by decide), set2_n (Or.inr (by decide))]
    exact h6
  · obtain ⟨g1', g2', g3'⟩ := h7 p hp'
    unfold dChild
    refine ⟨?_, ?_, ?_⟩
    all_goals rw [set2_a (by decide), set2_a (by decide), set2_a (by decide), set2_a (by decide), set2_a (by decide), set2_a (by decide), uN (by omega), uN (by omega), uN (by omega), uN (by omega), uN (by omega), uN (by omega)]; assumption
  · unfold dChild
    by_cases e : q = nc
    · subst e
      refine ⟨?_, ?_, ?_, ?_, ?_⟩
      · rw [set2_a (by decide), set2_a (by decide), set2_a (by decide), set2_a (by decide), set2_s, uN (by omega), uN (by omega), uN (by omega), uN (by omega), uN (by omega), uS]
      · rw [set2_a (by decide), set2_a (by decide), set2_a (by decide), set2_s, uN (by omega), uN (by omega), uN (by omega), uN (by omega), uS]
      · rw [set2_a (by decide), set2_a (by decide), set2_s, uN (by omega), uN (by omega), uN (by omega), uS]
      · rw [set2_a (by decide), set2_s, uN (by omega), uN (by omega), uS]
      · rw [set2_s, uN (by omega), uS]
    · obtain ⟨g1', g2', g3', g4', g5'⟩ := h8 q (by omega)
      refine ⟨?_, ?_, ?_, ?_, ?_⟩
      · rw [set2_a (by decide), set2_a (by decide), set2_a (by decide), set2_a (by decide), set2_n (Or.inr e), set2_a (by decide), uN (by omega), uN (by omega), uN (by omega), uN (by omega), uN (by omega), uN (by omega)]
        exact g1'
      · rw [set2_a (by decide), set2_a (by decide), set2_a (by decide), set2_n (Or.inr e), set2_a (by decide), set2_a (by decide), uN (by omega), uN (by omega), uN (by omega), uN (by omega), uN (by omega), uN (by omega)]
        exact g2'
      · rw [set2_a (by decide), set2_a (by decide), set2_n (Or.inr e), set2_a (by decide), set2_a (by decide), set2_a (by decide), uN (by omega), uN (by omega), uN (by omega), uN (by omega), uN (by omega), uN (by omega)]
        exact g3'
      · rw [set2_a (by decide), set2_n (Or.inr e), set2_a (by decide), set2_a (by decide), set2_a (by decide), set2_a (by decide), uN (by omega), uN (by omega), uN (by omega), uN (by omega), uN (by omega), uN (by omega)]
        exact g4'
      · rw [set2_n (Or.inr e), set2_a (by decide), set2_a (by decide), set2_a (by decide), set2_a (by decide), set2_a (by decide), uN (by omega), uN (by omega), uN (by omega), uN (by omega), uN (by omega), uN (by omega)]
        exact g5'
  · unfold dChild
    rw [set2_a (by decide), set2_a (by decide), set2_a (by decide), set2_a (by decide), set2_a (by decide), set2_a (by decide), uN (by omega), uN (by omega), uN (by omega), uN (by omega), uN (by omega), uN (by omega)]
    exact h9 x hx
  · obtain ⟨g1', g2'⟩ := h10 s hs
    unfold dChild
    refine ⟨?_, ?_⟩
    all_goals rw [set2_a (by decide), set2_a (by decide), set2_a (by decide), set2_a (by decide), set2_a (by decide), set2_a (by decide), uN (by omega), uN (by omega), uN (by omega), uN (by omega), uN (by omega), uN (by omega)]; assumption
theorem dr_scene {f f' : Nat → Nat → Int32} {D : Nat → Int32} {np nc ns m k : Nat} (h : DRf f D np nc ns) (hp : ns < 7) (hf : Fr (set2 (set2 (set2 f 25 11 (nI (ns + 1))) 35 ns (nI m)) 36 ns (nI k)) f') : DRf f' (dScene D ns m k) np nc (ns + 1) := by
  refine DR_c (fun x h1 h2 => hf.1 x (by omega)) ?_
  obtain ⟨h1, h2, h3, h4, h5, h6, h7, h8, h9, h10⟩ := h
  refine ⟨h1, h2, by omega, ?_, ?_, ?_, fun p hp' => ?_, fun q hq => ?_, fun x hx => ?_, fun s hs => ?_⟩
  · rw [set2_a (by decide), set2_a (by decide), set2_n (Or.inr (by decide))]
    exact h4
  · rw [set2_a (by decide), set2_a (by decide), set2_n (Or.inr (by decide))]
    exact h5
  · rw [set2_a (by decide), set2_a (by decide), set2_s]
  · obtain ⟨g1', g2', g3'⟩ := h7 p hp'
    unfold dScene
    refine ⟨?_, ?_, ?_⟩
    all_goals rw [set2_a (by decide), set2_a (by decide), set2_a (by decide), uN (by omega), uN (by omega), uN (by omega)]; assumption
  · obtain ⟨g1', g2', g3', g4', g5'⟩ := h8 q hq
    unfold dScene
    refine ⟨?_, ?_, ?_, ?_, ?_⟩
    all_goals rw [set2_a (by decide), set2_a (by decide), set2_a (by decide), uN (by omega), uN (by omega), uN (by omega)]; assumption
  · unfold dScene
    rw [set2_a (by decide), set2_a (by decide), set2_a (by decide), uN (by omega), uN (by omega), uN (by omega)]
    exact h9 x hx
  · unfold dScene
    by_cases e : s = ns
    · subst e
      refine ⟨?_, ?_⟩
      · rw [set2_a (by decide), set2_s, uN (by omega), uN (by omega), uS]
      · rw [set2_s, uN (by omega), uS]
    · obtain ⟨g1', g2'⟩ := h10 s (by omega)
      refine ⟨?_, ?_⟩
      · rw [set2_a (by decide), set2_n (Or.inr e), set2_a (by decide), uN (by omega), uN (by omega), uN (by omega)]
        exact g1'
      · rw [set2_n (Or.inr e), set2_a (by decide), set2_a (by decide), uN (by omega), uN (by omega), uN (by omega)]
        exact g2'
theorem dr_wish {f f' : Nat → Nat → Int32} {D : Nat → Int32} {np nc ns x : Nat} {w : Nat → Int32} (h : DRf f D np nc ns) (hx : x < 6) (hf : Fr (wsT f x w) f') : DRf f' (dWish D x w) np nc ns := by
  refine DR_c (fun x h1 h2 => hf.1 x (by omega)) ?_
  obtain ⟨h1, h2, h3, h4, h5, h6, h7, h8, h9, h10⟩ := h
  refine ⟨h1, h2, h3, ?_, ?_, ?_, fun p hp' => ?_, fun q hq => ?_, fun y hy => ?_, fun s hs => ?_⟩
  · rw [ws_n _ _ _ (by decide)]
    exact h4
  · rw [ws_n _ _ _ (by decide)]
    exact h5
  · rw [ws_n _ _ _ (by decide)]
    exact h6
  · obtain ⟨g1', g2', g3'⟩ := h7 p hp'
    unfold dWish
    refine ⟨?_, ?_, ?_⟩
    all_goals rw [ws_n _ _ _ (by decide), uN (by omega), uN (by omega), uN (by omega)]; assumption
  · obtain ⟨g1', g2', g3', g4', g5'⟩ := h8 q hq
    unfold dWish
    refine ⟨?_, ?_, ?_, ?_, ?_⟩
    all_goals rw [ws_n _ _ _ (by decide), uN (by omega), uN (by omega), uN (by omega)]; assumption
  · by_cases hj : 3 * x ≤ y ∧ y < 3 * x + 3
    · obtain ⟨k, hk, rfl⟩ : ∃ k, k < 3 ∧ y = 3 * x + k := ⟨y - 3 * x, by omega, by omega⟩
      rw [ws_at f x w hk]
      unfold dWish
      rcases (by omega : k = 0 ∨ k = 1 ∨ k = 2) with e | e | e
      · subst e
        rw [uN (by omega), uN (by omega), show 66 + (3 * x + 0) = 66 + 3 * x by omega, uS]
      · subst e
        rw [uN (by omega), show 66 + (3 * x + 1) = 66 + 3 * x + 1 by omega, uS]
      · subst e
        rw [show 66 + (3 * x + 2) = 66 + 3 * x + 2 by omega, uS]
    · rw [ws_o f x w hj]
      unfold dWish
      rw [uN (by omega), uN (by omega), uN (by omega)]
      exact h9 y hy
  · obtain ⟨g1', g2'⟩ := h10 s hs
    unfold dWish
    refine ⟨?_, ?_⟩
    all_goals rw [ws_n _ _ _ (by decide), uN (by omega), uN (by omega), uN (by omega)]; assumption
end RD8
