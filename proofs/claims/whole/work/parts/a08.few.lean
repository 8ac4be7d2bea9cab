/-! FEWEST: the class's playersFrom -/
def Pr (cm : Nat → Int32) (m : Nat) (κ : Nat → Nat) : Prop := ∀ a, a < m → ∀ b, b < a → κ a = κ b → bt (cm a) b = false
/-- v players are enough, and no fewer for what goes on from here -/
def Fw (cm : Nat → Int32) (np part used : Nat) (κ : Nat → Nat) (v : Nat) : Prop := (∃ l, Pr cm np l ∧ ∀ p, p < np → l p < v) ∧ v ≤ np ∧ ∀ (l : Nat → Nat) (n : Nat) (φ : Nat → Nat), Pr cm np l → (∀ p, p < np → l p < n) → (∀ i, i < used → φ i < n) → (∀ i, i < used → ∀ j, j < used → φ i = φ j → i = j) → (∀ p, p < part → l p = φ (κ p)) → v ≤ n
theorem pig {φ : Nat → Nat} {n : Nat} : ∀ u, (∀ i, i < u → φ i < n) → (∀ i, i < u → ∀ j, j < u → φ i = φ j → i = j) → un n u φ + u = n
  | 0, _, _ => un_0 n φ
  | u + 1, h1, h2 => by
    have ih := pig u (fun i hi => h1 i (by omega)) (fun i hi j hj => h2 i (by omega) j (by omega))
    have st := un_step n u φ
    rw [if_pos ⟨h1 u (by omega), (fr_t φ u (φ u)).mpr (fun p hp e => by
      have := h2 u (by omega) p (by omega) e
      omega)⟩] at st
    omega
def upN (κ : Nat → Nat) (p x : Nat) : Nat → Nat := fun q => if q = p then x else κ q
theorem upN_s (κ : Nat → Nat) (p x : Nat) : upN κ p x p = x := if_pos rfl
theorem upN_n {κ : Nat → Nat} {p x q : Nat} (h : q ≠ p) : upN κ p x q = κ q := if_neg h
def Hd (f : Nat → Nat → Int32) (part : Nat) (κ : Nat → Nat) : Prop := ∀ i, i < 6 → ∀ p, p < 32 → bt (f 44 i) p = (decide (p < part) && decide (κ p = i))
set_option maxRecDepth 100000 in
theorem x_pf (E : zE) (d : Nat) {np : Nat} {cm : Nat → Int32} (hnp : np ≤ 6) : ∀ m part used (κ : Nat → Nat) (f : Nat → Nat → Int32) (t : (Nat → Nat → Int64) × Nat), part + m = np → used ≤ part → f 38 3 = nI np → (∀ p, p < np → f 42 p = cm p) → Hd f part κ → Pr cm part κ → (∀ p, p < part → κ p < used) → Hr E (d + m + 1) 10 [.ref 38, .int (nI part), .int (nI used)] (f, t) (fun r z' => z' = (f, t) ∧ ∃ v, r = some (.int (nI v)) ∧ Fw cm np part used κ v) := by
  intro m
  induction m with
  | zero =>
    intro part used κ f t hpm hu h3 h42 hH hP hκ
    have e : part = np := by omega
    subst e
    unfold Hr
    simp only [↓c_X0_playersFrom, ↓e_X0_playersFrom_0, ↓e_X0_playersFrom_4, ↓e_X0_playersFrom_9, ↓e_X0_playersFrom_12, ↓e_X0_playersFrom_18, ↓e_X0_playersFrom_20, ↓e_X0_playersFrom_24, ↓e_X0_playersFrom_34, ↓e_X0_playersFrom_40, ↓e_X0_playersFrom_41, ↓e_X0_playersFrom_44, ↓e_X0_playersFrom_48, ↓e_X0_playersFrom_51, ↓e_X0_playersFrom_55, ↓e_X0_playersFrom_57, ↓e_X0_playersFrom_61, ↓e_X0_playersFrom_65, ↓e_X0_playersFrom_69, ↓e_X0_playersFrom_74, ↓e_X0_playersFrom_85, ↓e_X0_playersFrom_91, ↓e_X0_playersFrom_92, ↓e_X0_playersFrom_95, ↓e_X0_playersFrom_103, ↓e_X0_playersFrom_107, ↓e_X0_playersFrom_114, ↓e_X0_playersFrom_120, nI_neg (show part < 2 ^ 31 by omega), g0 o0_38, Nat.reduceAdd, h3, nI_lt_iff (show part < 2 ^ 31 by omega) (show part < 2 ^ 31 by omega), Nat.lt_irrefl, zk_i, zk_r, zk_n, ↓reduceIte]
    refine ⟨(f, t), rfl, rfl, used, rfl, ⟨κ, hP, hκ⟩, hu, fun l n φ _ _ h1 h2 _ => ?_⟩
    have := pig used h1 h2
    omega
  | succ m ih =>
    intro part used κ f t hpm hu h3 h42 hH hP hκ
    have hlt : part < np := by omega
    unfold Hr
    generalize hQ : (fun (r : Option Value) (h : zH) => ∃ z' : zS, h = HP z' ∧ (z' = (f, t) ∧ ∃ v, r = some (.int (nI v)) ∧ Fw cm np part used κ v)) = Q
    have loop : ∀ k i l, i + k = used + 1 → (∃ l', Pr cm np l' ∧ ∀ p, p < np → l' p < l) → l ≤ np → (∀ (l' : Nat → Nat) (n : Nat) (φ : Nat → Nat), Pr cm np l' → (∀ p, p < np → l' p < n) → (∀ i, i < used → φ i < n) → (∀ i, i < used → ∀ j, j < used → φ i = φ j → i = j) → (∀ p, p < part → l' p = φ (κ p)) → (∃ i', i' < i ∧ ((i' < used ∧ φ i' = l' part) ∨ (i' = used ∧ ∀ j, j < used → φ j ≠ l' part))) → l ≤ n) → Ev E (d + m + 1 + 1) zm_X0_playersFrom 28 [some (.ref 38), some (.int (nI part)), some (.int (nI used)), some (.int (nI l)), some (.int (nI i))] [] (HP (f, t)) Q := by
      intro k
      induction k with
      | zero =>
        intro i l hi hL hl hU
        have e : (nI used < nI i) = True := eq_true (nI_lt (by omega) (by omega))
        have q : Q (some (.int (nI l))) (HP (f, t)) := by
          rw [← hQ]
          refine ⟨(f, t), rfl, rfl, l, rfl, hL, hl, fun l' n φ a1 a2 a3 a4 a5 => hU l' n φ a1 a2 a3 a4 a5 ?_⟩
          by_cases hex : ∃ i', i' < used ∧ φ i' = l' part
          · obtain ⟨i', b1, b2⟩ := hex
            exact ⟨i', by omega, Or.inl ⟨b1, b2⟩⟩
          · exact ⟨used, by omega, Or.inr ⟨rfl, fun j hj e => hex ⟨j, hj, e⟩⟩⟩
        rw [e_X0_playersFrom_28]
        simp only [↓e_X0_playersFrom_4, ↓e_X0_playersFrom_9, ↓e_X0_playersFrom_12, ↓e_X0_playersFrom_18, ↓e_X0_playersFrom_20, ↓e_X0_playersFrom_24, ↓e_X0_playersFrom_34, ↓e_X0_playersFrom_40, ↓e_X0_playersFrom_41, ↓e_X0_playersFrom_44, ↓e_X0_playersFrom_48, ↓e_X0_playersFrom_51, ↓e_X0_playersFrom_55, ↓e_X0_playersFrom_57, ↓e_X0_playersFrom_61, ↓e_X0_playersFrom_65, ↓e_X0_playersFrom_69, ↓e_X0_playersFrom_74, ↓e_X0_playersFrom_85, ↓e_X0_playersFrom_91, ↓e_X0_playersFrom_92, ↓e_X0_playersFrom_95, ↓e_X0_playersFrom_103, ↓e_X0_playersFrom_107, ↓e_X0_playersFrom_114, ↓e_X0_playersFrom_120, e, zk_i, zk_r, zk_n, ↓reduceIte]
        exact q
      | succ k ihk =>
        intro i l hi hL hl hU
        have hiu : i ≤ used := by omega
        have hi6 : i < 6 := by omega
        have e1 : (nI used < nI i) = False := eq_false (nI_nlt hiu (by omega))
        have e2 : (nI i < nI 6) = True := eq_true (nI_lt hi6 (by decide))
        have h42p := h42 part hlt
        have e4 : (nI i = nI used) = (i = used) := propext (nI_eq (by omega) (by omega))
        by_cases hcl : f 44 i &&& cm part = 0
        · have hfree : ∀ b, b < part → κ b = i → bt (cm part) b = false := fun b hb e => by
            have h1 := (b_nz.mp hcl) b (by omega)
            rw [b_and, hH i hi6 b (by omega), decide_eq_true hb, decide_eq_true e, Bool.true_and, Bool.true_and] at h1
            exact h1
          obtain ⟨f2, hf2⟩ : ∃ g : Nat → Nat → Int32, g = set2 f 44 i (f 44 i ||| (1 <<< (nI part &&& 31))) := ⟨_, rfl⟩
          have r2 : ∀ r, r ≠ 44 → f2 r = f r := fun r hr => by rw [hf2, set2_a hr]
          have f2i : f2 44 i = f 44 i ||| (1 <<< (nI part &&& 31)) := by rw [hf2, set2_s]
          obtain ⟨u', hu'⟩ : ∃ u, u = (if i = used then used + 1 else used) := ⟨_, rfl⟩
          have hH2 : Hd f2 (part + 1) (upN κ part i) := fun i' hi' p hp => by
            by_cases e : i' = i
            · subst e
              rw [f2i, b_or, hH i' hi6 p hp, b_one (by omega) hp]
              by_cases ep : p = part
              · subst ep
                rw [upN_s]
                simp
              · rw [upN_n ep]
                by_cases lt : p < part
                · simp [lt, ep, show p < part + 1 by omega]
                · simp [lt, ep, show ¬ p < part + 1 by omega]
            · have e44 : f2 44 i' = f 44 i' := by rw [hf2, set2_n (Or.inr e)]
              rw [e44, hH i' hi' p hp]
              by_cases ep : p = part
              · subst ep
                rw [upN_s]
                simp [Ne.symm e]
              · rw [upN_n ep]
                by_cases lt : p < part
                · simp [lt, show p < part + 1 by omega]
                · simp [lt, show ¬ p < part + 1 by omega]
          have hP2 : Pr cm (part + 1) (upN κ part i) := fun a ha b hb e => by
            by_cases ea : a = part
            · subst ea
              rw [upN_s, upN_n (by omega)] at e
              exact hfree b hb e.symm
            · rw [upN_n ea, upN_n (by omega)] at e
              exact hP a (by omega) b hb e
          have hκ2 : ∀ p, p < part + 1 → upN κ part i p < u' := fun p hp => by
            by_cases ep : p = part
            · subst ep
              rw [upN_s, hu']
              split <;> omega
            · rw [upN_n ep, hu']
              have := hκ p (by omega)
              split <;> omega
          obtain ⟨r, z3, ⟨hz3, v, hr, hF⟩, e3⟩ := Hr_use (ih (part + 1) u' (upN κ part i) f2 t (by omega) (by rw [hu']; split <;> omega) (by rw [r2 38 (by decide)]; exact h3) (fun p hp => by rw [r2 42 (by decide)]; exact h42 p hp) hH2 hP2 hκ2)
          subst hr
          subst hz3
          have back : set2 f2 44 i (f2 44 i &&& ((1 <<< (nI part &&& 31)) ^^^ (-1))) = f := by
            have ex : f2 44 i &&& ((1 <<< (nI part &&& 31)) ^^^ (-1)) = f 44 i := b_ext (fun p hp => by
              rw [f2i, b_and, b_or, b_xor, b_m1 p hp, b_one (by omega) hp]
              by_cases ep : p = part
              · subst ep
                rw [hH i hi6 p hp]
                simp
              · simp [ep])
            rw [ex, hf2]
            funext a b
            unfold set2
            by_cases q : a = 44 ∧ b = i
            · rw [if_pos q, q.1, q.2]
            · rw [if_neg q, if_neg q]
          have emin : (if nI v < nI l then nI v else nI l) = nI (min v l) := by
            have hv6 := hF.2.1
            by_cases q : v < l
            · rw [if_pos (nI_lt q (by omega)), Nat.min_eq_left (by omega)]
            · rw [if_neg (nI_nlt (by omega) (by omega)), Nat.min_eq_right (by omega)]
          have next := ihk (i + 1) (min v l) (by omega) (by
            rcases Nat.le_total v l with q | q
            · rw [Nat.min_eq_left q]
              exact hF.1
            · rw [Nat.min_eq_right q]
              exact hL) (Nat.le_trans (Nat.min_le_right _ _) hl) (fun l' n φ a1 a2 a3 a4 a5 a6 => by
            obtain ⟨i', b1, b2⟩ := a6
            by_cases e : i' = i
            · refine Nat.le_trans (Nat.min_le_left _ _) ?_
              subst e
              rcases b2 with ⟨c1, c2⟩ | ⟨c1, c2⟩
              · rw [if_neg (by omega)] at hu'
                subst hu'
                refine hF.2.2 l' n φ a1 a2 a3 a4 (fun p hp => ?_)
                by_cases ep : p = part
                · subst ep
                  rw [upN_s, c2]
                · rw [upN_n ep]
                  exact a5 p (by omega)
              · subst c1
                rw [if_pos rfl] at hu'
                subst hu'
                refine hF.2.2 l' n (upN φ i' (l' part)) a1 a2 (fun j hj => ?_) (fun j hj j' hj' e => ?_) (fun p hp => ?_)
                · by_cases ej : j = i'
                  · subst ej
                    rw [upN_s]
                    exact a2 part hlt
                  · rw [upN_n ej]
                    exact a3 j (by omega)
                · by_cases ej : j = i'
                  · by_cases ej' : j' = i'
                    · omega
                    · subst ej
                      rw [upN_s, upN_n ej'] at e
                      exact absurd e.symm (c2 j' (by omega))
                  · by_cases ej' : j' = i'
                    · subst ej'
                      rw [upN_s, upN_n ej] at e
                      exact absurd e (c2 j (by omega))
                    · rw [upN_n ej, upN_n ej'] at e
                      exact a4 j (by omega) j' (by omega) e
                · by_cases ep : p = part
                  · subst ep
                    rw [upN_s, upN_s]
                  · have := hκ p (by omega)
                    rw [upN_n ep, upN_n (show κ p ≠ i' by omega)]
                    exact a5 p (by omega)
            · refine Nat.le_trans (Nat.min_le_right _ _) (hU l' n φ a1 a2 a3 a4 a5 ⟨i', by omega, b2⟩))
          rw [hf2] at e3 back
          by_cases hiu' : i = used
          · have hiu2 : (i = used) = True := eq_true hiu'
            rw [if_pos hiu'] at hu'
            rw [hu'] at e3
            rw [e_X0_playersFrom_28]
            simp only [↓e_X0_playersFrom_4, ↓e_X0_playersFrom_9, ↓e_X0_playersFrom_12, ↓e_X0_playersFrom_18, ↓e_X0_playersFrom_20, ↓e_X0_playersFrom_24, ↓e_X0_playersFrom_34, ↓e_X0_playersFrom_40, ↓e_X0_playersFrom_41, ↓e_X0_playersFrom_44, ↓e_X0_playersFrom_48, ↓e_X0_playersFrom_51, ↓e_X0_playersFrom_55, ↓e_X0_playersFrom_57, ↓e_X0_playersFrom_61, ↓e_X0_playersFrom_65, ↓e_X0_playersFrom_69, ↓e_X0_playersFrom_74, ↓e_X0_playersFrom_85, ↓e_X0_playersFrom_91, ↓e_X0_playersFrom_92, ↓e_X0_playersFrom_95, ↓e_X0_playersFrom_103, ↓e_X0_playersFrom_107, ↓e_X0_playersFrom_114, ↓e_X0_playersFrom_120, g0 o0_38, v0 o0_38, Nat.reduceAdd, HP_al i44, e1, e2, e4, hiu2, h42p, hcl, nI_1, ri_k i44 hi6 (by decide), ri_k i42 (show part < 6 by omega) (by decide), wi_k i44 hi6 (by decide), e3, back, emin, zps_s, zk_i, zk_r, zk_n, ↓reduceIte]
            exact next
          · rw [if_neg hiu'] at hu'
            rw [hu'] at e3
            rw [e_X0_playersFrom_28]
            simp only [↓e_X0_playersFrom_4, ↓e_X0_playersFrom_9, ↓e_X0_playersFrom_12, ↓e_X0_playersFrom_18, ↓e_X0_playersFrom_20, ↓e_X0_playersFrom_24, ↓e_X0_playersFrom_34, ↓e_X0_playersFrom_40, ↓e_X0_playersFrom_41, ↓e_X0_playersFrom_44, ↓e_X0_playersFrom_48, ↓e_X0_playersFrom_51, ↓e_X0_playersFrom_55, ↓e_X0_playersFrom_57, ↓e_X0_playersFrom_61, ↓e_X0_playersFrom_65, ↓e_X0_playersFrom_69, ↓e_X0_playersFrom_74, ↓e_X0_playersFrom_85, ↓e_X0_playersFrom_91, ↓e_X0_playersFrom_92, ↓e_X0_playersFrom_95, ↓e_X0_playersFrom_103, ↓e_X0_playersFrom_107, ↓e_X0_playersFrom_114, ↓e_X0_playersFrom_120, g0 o0_38, v0 o0_38, Nat.reduceAdd, HP_al i44, e1, e2, e4, hiu', h42p, hcl, nI_1, ri_k i44 hi6 (by decide), ri_k i42 (show part < 6 by omega) (by decide), wi_k i44 hi6 (by decide), e3, back, emin, zps_s, zk_i, zk_r, zk_n, ↓reduceIte]
            exact next
        · have next := ihk (i + 1) l (by omega) hL hl (fun l' n φ a1 a2 a3 a4 a5 a6 => by
            obtain ⟨i', b1, b2⟩ := a6
            by_cases e : i' = i
            · subst e
              refine absurd (b_nz.mpr (fun b hb => ?_)) hcl
              rw [b_and, hH i' hi6 b hb]
              by_cases lt : b < part
              · by_cases eb : κ b = i'
                · rcases b2 with ⟨c1, c2⟩ | ⟨c1, c2⟩
                  · have := a1 part hlt b lt (by rw [a5 b lt, eb, c2])
                    rw [this, Bool.and_false]
                  · have := hκ b lt
                    omega
                · simp [eb]
              · simp [lt]
            · exact hU l' n φ a1 a2 a3 a4 a5 ⟨i', by omega, b2⟩)
          rw [e_X0_playersFrom_28]
          simp only [↓e_X0_playersFrom_4, ↓e_X0_playersFrom_9, ↓e_X0_playersFrom_12, ↓e_X0_playersFrom_18, ↓e_X0_playersFrom_20, ↓e_X0_playersFrom_24, ↓e_X0_playersFrom_34, ↓e_X0_playersFrom_40, ↓e_X0_playersFrom_41, ↓e_X0_playersFrom_44, ↓e_X0_playersFrom_48, ↓e_X0_playersFrom_51, ↓e_X0_playersFrom_55, ↓e_X0_playersFrom_57, ↓e_X0_playersFrom_61, ↓e_X0_playersFrom_65, ↓e_X0_playersFrom_69, ↓e_X0_playersFrom_74, ↓e_X0_playersFrom_85, ↓e_X0_playersFrom_91, ↓e_X0_playersFrom_92, ↓e_X0_playersFrom_95, ↓e_X0_playersFrom_103, ↓e_X0_playersFrom_107, ↓e_X0_playersFrom_114, ↓e_X0_playersFrom_120, g0 o0_38, v0 o0_38, Nat.reduceAdd, HP_al i44, e1, e2, h42p, hcl, nI_1, ri_k i44 hi6 (by decide), ri_k i42 (show part < 6 by omega) (by decide), zps_s, zk_i, zk_r, zk_n, ↓reduceIte]
          exact next
    have start := loop (used + 1) 0 np (by omega) ⟨fun p => p, fun a ha b hb e => absurd (show a = b from e) (by omega), fun p hp => hp⟩ (Nat.le_refl _) (fun l' n φ _ _ _ _ _ q => by
      obtain ⟨i', h1, -⟩ := q
      omega)
    rw [nI_0] at start
    simp only [↓c_X0_playersFrom, ↓e_X0_playersFrom_0, ↓e_X0_playersFrom_4, ↓e_X0_playersFrom_9, ↓e_X0_playersFrom_12, ↓e_X0_playersFrom_18, ↓e_X0_playersFrom_20, ↓e_X0_playersFrom_24, ↓e_X0_playersFrom_34, ↓e_X0_playersFrom_40, ↓e_X0_playersFrom_41, ↓e_X0_playersFrom_44, ↓e_X0_playersFrom_48, ↓e_X0_playersFrom_51, ↓e_X0_playersFrom_55, ↓e_X0_playersFrom_57, ↓e_X0_playersFrom_61, ↓e_X0_playersFrom_65, ↓e_X0_playersFrom_69, ↓e_X0_playersFrom_74, ↓e_X0_playersFrom_85, ↓e_X0_playersFrom_91, ↓e_X0_playersFrom_92, ↓e_X0_playersFrom_95, ↓e_X0_playersFrom_103, ↓e_X0_playersFrom_107, ↓e_X0_playersFrom_114, ↓e_X0_playersFrom_120, nI_neg (show part < 2 ^ 31 by omega), g0 o0_38, Nat.reduceAdd, h3, nI_lt_iff (show part < 2 ^ 31 by omega) (show np < 2 ^ 31 by omega), hlt, lt_lit (n := 6) (x := 6) (by decide) (show part < 2 ^ 31 by omega) (by decide), show part < 6 by omega, zk_i, zk_r, zk_n, ↓reduceIte]
    exact start
