/-! READ: an item, and the whole text, in the class -/
section RT9
variable {tx : Nat → Int32} {nl : Nat}
def StepP (tx : Nat → Int32) (D : Nat → Int32) (np nc ns i : Nat) (D' : Nat → Int32) (np' nc' ns' i' : Nat) : Prop := ∃ s e v, Tok tx i s e 1 v ∧ (
  (wdP tx s e 0 ∧ np < 6 ∧ ∃ a b c, NumsS tx [(0, 7), (0, 61), (0, 10)] e [a, b, c] i' ∧ D' = dPart D np a b c ∧ np' = np + 1 ∧ nc' = nc ∧ ns' = ns) ∨
  (wdP tx s e 1 ∧ nc < 6 ∧ ∃ a b c g o, NumsS tx [(1, 10), (0, 10), (0, 10), (0, 10), (0, 20)] e [a, b, c, g, o] i' ∧ D' = dChild D nc a b c g o ∧ np' = np ∧ nc' = nc + 1 ∧ ns' = ns) ∨
  (wdP tx s e 2 ∧ ns < 7 ∧ ∃ m mask k e1, Num tx e 1 21 m e1 ∧ 0 < k ∧ ScS tx np k e1 0 0 mask i' ∧ D' = dScene D ns m mask ∧ np' = np ∧ nc' = nc ∧ ns' = ns + 1) ∨
  (wdP tx s e 3 ∧ ∃ x w k e1, Num tx e 0 nc x e1 ∧ 0 < k ∧ WiS tx np k e1 0 (fun _ => -1) w i' ∧ D' = dWish D x w ∧ np' = np ∧ nc' = nc ∧ ns' = ns))
def FailP (tx : Nat → Int32) (np nc ns i s' : Nat) : Prop := ∃ s e k v, Tok tx i s e k v ∧ ¬ k = 0 ∧ (
  (¬ k = 1 ∧ s' = s) ∨ (k = 1 ∧ (
  (wdP tx s e 0 ∧ ((np = 6 ∧ s' = s) ∨ (np < 6 ∧ NumsF tx [(0, 7), (0, 61), (0, 10)] e s'))) ∨
  (wdP tx s e 1 ∧ ((nc = 6 ∧ s' = s) ∨ (nc < 6 ∧ NumsF tx [(1, 10), (0, 10), (0, 10), (0, 10), (0, 20)] e s'))) ∨
  (wdP tx s e 2 ∧ ((ns = 7 ∧ s' = s) ∨ (ns < 7 ∧ (NumF tx e 1 21 s' ∨ ∃ m e1 k, Num tx e 1 21 m e1 ∧ ScF tx np k true e1 0 s')))) ∨
  (wdP tx s e 3 ∧ (NumF tx e 0 nc s' ∨ ∃ x e1 k, Num tx e 0 nc x e1 ∧ WiF tx np k e1 0 (fun _ => -1) s')) ∨
  ((∀ a, a < 4 → ¬ wdP tx s e a) ∧ s' = s))))
theorem tok_le {i s e : Nat} {k v : Int32} (h : Tok tx i s e k v) : i ≤ s ∧ s ≤ e := by
  refine ⟨h.1, ?_⟩
  obtain ⟨-, -, -, h | h | h | h⟩ := h
  · omega
  · omega
  · omega
  · omega
theorem num_le {i lo hb n e : Nat} (h : Num tx i lo hb n e) : i ≤ e := by
  obtain ⟨-, -, -, s, h⟩ := h
  have := tok_le h
  omega
theorem nums_le : ∀ (bs : List (Nat × Nat)) i vs i', NumsS tx bs i vs i' → i ≤ i'
  | [], _, _, _, h => by
    obtain ⟨-, s, v, h⟩ := h
    have := tok_le h
    omega
  | b :: bs, i, _, i', h => by
    obtain ⟨n, e, ws, -, h1, h2⟩ := h
    have := num_le h1
    have := nums_le bs e ws i' h2
    omega
theorem sc_le {np : Nat} : ∀ k i l m m' i', ScS tx np k i l m m' i' → i ≤ i'
  | 0, _, _, _, _, _, h => by
    obtain ⟨-, s, v, h⟩ := h
    have := tok_le h
    omega
  | k + 1, i, l, m, m', i', h => by
    obtain ⟨n, e, h1, h2⟩ := h
    have := num_le h1
    have := sc_le k e _ _ _ _ h2
    omega
theorem wi_le {np : Nat} : ∀ k i c w w' i', WiS tx np k i c w w' i' → i ≤ i'
  | 0, _, _, _, _, _, h => by
    obtain ⟨-, s, v, h⟩ := h
    have := tok_le h
    omega
  | k + 1, i, c, w, w', i', h => by
    obtain ⟨n, e, -, h1, -, h2⟩ := h
    have := num_le h1
    have := wi_le k e _ _ _ _ h2
    omega
theorem step_lt {D D' : Nat → Int32} {np nc ns i np' nc' ns' i' : Nat} (h : StepP tx D np nc ns i D' np' nc' ns' i') : i < i' := by
  obtain ⟨s, e, v, ht, h⟩ := h
  have h1 := tok_le ht
  have h2 : s < e := by
    obtain ⟨-, -, -, h | h | h | h⟩ := ht
    · exact absurd h.2.2 (by decide)
    · exact h.2.2.2.1
    · exact h.2.2.2.2.1
    · omega
  rcases h with ⟨-, -, a, b, c, h, -⟩ | ⟨-, -, a, b, c, g, o, h, -⟩ | ⟨-, -, m, mask, k, e1, h, -, h', -⟩ | ⟨-, x, w, k, e1, h, -, h', -⟩
  · have := nums_le _ _ _ _ h
    omega
  · have := nums_le _ _ _ _ h
    omega
  · have := num_le h
    have := sc_le _ _ _ _ _ _ h'
    omega
  · have := num_le h
    have := wi_le _ _ _ _ _ _ h'
    omega
theorem GF_x {f f' : Nat → Nat → Int32} (h : GF f f') (h2 : f' 24 2 = f 24 2) (hx : RX f tx nl) : RX f' tx nl := RX_c (h 18 (by omega)) h2 hx
set_option maxRecDepth 100000 in
theorem x_item (E : zE) (d : Nat) {f : Nat → Nat → Int32} {t : (Nat → Nat → Int64) × Nat} (ht : t.2 = 18) (hx : RX f tx nl) {i s e : Nat} (htk : Tok tx i s e (f 24 5) (f 24 6)) (hs : s ≤ nl) (he : e ≤ nl) (h3 : f 24 3 = nI e) (h4 : f 24 4 = nI s) (h5 : ¬ f 24 5 = 0) {D : Nat → Int32} {np nc ns : Nat} (hD : DRf f D np nc ns) : Hr E (d + 5) 44 [.ref 24] (f, t) (fun v z' => z'.2 = t ∧ GF f z'.1 ∧ ((v = some (.int 1) ∧ ∃ D' np' nc' ns' i', StepP tx D np nc ns i D' np' nc' ns' i' ∧ i' ≤ nl ∧ z'.1 24 3 = nI i' ∧ z'.1 24 2 = f 24 2 ∧ DRf z'.1 D' np' nc' ns') ∨ (v = some (.int 0) ∧ ∃ s', z'.1 24 4 = nI s' ∧ s' ≤ nl ∧ FailP tx np nc ns i s'))) := by
  by_cases k1 : f 24 5 = 1
  · have k1' : (f 24 5 = 1) = True := eq_true k1
    have tk1 : Tok tx i s e 1 (f 24 6) := by rw [k1] at htk; exact htk
    have hse := (tok_le htk).2
    have w : ∀ a, a < 4 → ∃ b : Bool, (b = true ↔ wdP tx s e a) ∧ ∀ K, Cl E (d + 4) 52 [.ref 24, .ref (1000 + a)] (HP (f, t)) K = K (some (.int (bI b))) (HP (f, t)) := fun a ha => by
      obtain ⟨v, z1, ⟨e1, h⟩, k⟩ := Hr_use (x_isWord E d (t := t) ht hx ha hse he h3 h4)
      subst e1
      rcases h with ⟨ev, h⟩ | ⟨ev, h⟩
      · subst ev
        exact ⟨true, ⟨fun _ => h, fun _ => rfl⟩, k⟩
      · subst ev
        exact ⟨false, ⟨fun e => absurd e (by decide), fun e => absurd e h⟩, k⟩
    obtain ⟨b0, i0, w0⟩ := w 0 (by decide)
    obtain ⟨b1, i1, w1⟩ := w 1 (by decide)
    obtain ⟨b2, i2, w2⟩ := w 2 (by decide)
    obtain ⟨b3, i3, w3⟩ := w 3 (by decide)
    have w0 : ∀ K, Cl E (d + 4) 52 [.ref 24, .ref 1000] (HP (f, t)) K = K (some (.int (bI b0))) (HP (f, t)) := w0
    have w1 : ∀ K, Cl E (d + 4) 52 [.ref 24, .ref 1001] (HP (f, t)) K = K (some (.int (bI b1))) (HP (f, t)) := w1
    have w2 : ∀ K, Cl E (d + 4) 52 [.ref 24, .ref 1002] (HP (f, t)) K = K (some (.int (bI b2))) (HP (f, t)) := w2
    have w3 : ∀ K, Cl E (d + 4) 52 [.ref 24, .ref 1003] (HP (f, t)) K = K (some (.int (bI b3))) (HP (f, t)) := w3
    cases b0 with
    | true =>
      obtain ⟨v, z1, ⟨e1, h⟩, k⟩ := Hr_use (x_partItem E d (t := t) ht hx he h3 h4 hs hD.1 hD.2.2.2.1)
      rcases h with ⟨ev, a, b, c, i', q1, q2, q3, q4, q5⟩ | ⟨ev, s', q1, q2, q3, q4⟩
      · subst ev
        refine Hr_of (z' := z1) (r := some (.int 1)) (fun K => ?_) ⟨e1, GF_w (by decide) (GF_w (by decide) (GF_w (by decide) (GF_w (by decide) (GF_f q5)))), Or.inl ⟨rfl, dPart D np a b c, np + 1, nc, ns, i', ⟨s, e, f 24 6, tk1, Or.inl ⟨i0.mp rfl, q1, a, b, c, q2, rfl, rfl, rfl, rfl⟩⟩, q3, q4, ?_, dr_part hD q1 q5⟩⟩
        · simp only [↓c_X5_item, ↓e_X5_item_0, ↓e_X5_item_4, ↓e_X5_item_8, ↓e_X5_item_10, ↓e_X5_item_16, ↓e_X5_item_19, ↓e_X5_item_23, ↓e_X5_item_24, ↓e_X5_item_30, ↓e_X5_item_33, ↓e_X5_item_37, ↓e_X5_item_38, ↓e_X5_item_44, ↓e_X5_item_47, ↓e_X5_item_51, ↓e_X5_item_52, ↓e_X5_item_58, ↓e_X5_item_61, ↓e_X5_item_65, ↓e_X5_item_68, ↓e_X5_item_72, ↓e_X5_item_73, v5 o5_24, g5 o5_24, k1', w0, k, zps_s, bI_t, i01, or_true, true_and, zk_i, zk_r, zk_n, ↓reduceIte]
        · rw [q5.2, set2_a (by decide), set2_a (by decide), set2_a (by decide), set2_a (by decide)]
      · subst ev
        refine Hr_of (z' := z1) (r := some (.int 0)) (fun K => ?_) ⟨e1, q3, Or.inr ⟨rfl, s', q1, q2, s, e, 1, f 24 6, tk1, by decide, Or.inr ⟨rfl, Or.inl ⟨i0.mp rfl, q4⟩⟩⟩⟩
        simp only [↓c_X5_item, ↓e_X5_item_0, ↓e_X5_item_4, ↓e_X5_item_8, ↓e_X5_item_10, ↓e_X5_item_16, ↓e_X5_item_19, ↓e_X5_item_23, ↓e_X5_item_24, ↓e_X5_item_30, ↓e_X5_item_33, ↓e_X5_item_37, ↓e_X5_item_38, ↓e_X5_item_44, ↓e_X5_item_47, ↓e_X5_item_51, ↓e_X5_item_52, ↓e_X5_item_58, ↓e_X5_item_61, ↓e_X5_item_65, ↓e_X5_item_68, ↓e_X5_item_72, ↓e_X5_item_73, v5 o5_24, g5 o5_24, k1', w0, k, zps_s, bI_t, i01, true_or, true_and, zk_i, zk_r, zk_n, ↓reduceIte]
    | false =>
      cases b1 with
      | true =>
        obtain ⟨v, z1, ⟨e1, h⟩, k⟩ := Hr_use (x_childItem E d (t := t) ht hx he h3 h4 hs hD.2.1 hD.2.2.2.2.1)
        rcases h with ⟨ev, a, b, c, g, o, i', q1, q2, q3, q4, q5⟩ | ⟨ev, s', q1, q2, q3, q4⟩
        · subst ev
          refine Hr_of (z' := z1) (r := some (.int 1)) (fun K => ?_) ⟨e1, GF_w (by decide) (GF_w (by decide) (GF_w (by decide) (GF_w (by decide) (GF_w (by decide) (GF_w (by decide) (GF_f q5)))))), Or.inl ⟨rfl, dChild D nc a b c g o, np, nc + 1, ns, i', ⟨s, e, f 24 6, tk1, Or.inr (Or.inl ⟨i1.mp rfl, q1, a, b, c, g, o, q2, rfl, rfl, rfl, rfl⟩)⟩, q3, q4, ?_, dr_child hD q1 q5⟩⟩
          · simp only [↓c_X5_item, ↓e_X5_item_0, ↓e_X5_item_4, ↓e_X5_item_8, ↓e_X5_item_10, ↓e_X5_item_16, ↓e_X5_item_19, ↓e_X5_item_23, ↓e_X5_item_24, ↓e_X5_item_30, ↓e_X5_item_33, ↓e_X5_item_37, ↓e_X5_item_38, ↓e_X5_item_44, ↓e_X5_item_47, ↓e_X5_item_51, ↓e_X5_item_52, ↓e_X5_item_58, ↓e_X5_item_61, ↓e_X5_item_65, ↓e_X5_item_68, ↓e_X5_item_72, ↓e_X5_item_73, v5 o5_24, g5 o5_24, k1', w0, w1, k, zps_s, bI_t, bI_f, i01, or_true, true_and, zk_i, zk_r, zk_n, ↓reduceIte]
          · rw [q5.2, set2_a (by decide), set2_a (by decide), set2_a (by decide), set2_a (by decide), set2_a (by decide), set2_a (by decide)]
        · subst ev
          refine Hr_of (z' := z1) (r := some (.int 0)) (fun K => ?_) ⟨e1, q3, Or.inr ⟨rfl, s', q1, q2, s, e, 1, f 24 6, tk1, by decide, Or.inr ⟨rfl, Or.inr (Or.inl ⟨i1.mp rfl, q4⟩)⟩⟩⟩
          simp only [↓c_X5_item, ↓e_X5_item_0, ↓e_X5_item_4, ↓e_X5_item_8, ↓e_X5_item_10, ↓e_X5_item_16, ↓e_X5_item_19, ↓e_X5_item_23, ↓e_X5_item_24, ↓e_X5_item_30, ↓e_X5_item_33, ↓e_X5_item_37, ↓e_X5_item_38, ↓e_X5_item_44, ↓e_X5_item_47, ↓e_X5_item_51, ↓e_X5_item_52, ↓e_X5_item_58, ↓e_X5_item_61, ↓e_X5_item_65, ↓e_X5_item_68, ↓e_X5_item_72, ↓e_X5_item_73, v5 o5_24, g5 o5_24, k1', w0, w1, k, zps_s, bI_t, bI_f, i01, true_or, true_and, zk_i, zk_r, zk_n, ↓reduceIte]
      | false =>
        cases b2 with
        | true =>
          obtain ⟨v, z1, ⟨e1, h⟩, k⟩ := Hr_use (x_sceneItem E d (t := t) ht hx he h3 h4 hs hD.1 hD.2.2.2.1 hD.2.2.1 hD.2.2.2.2.2.1)
          rcases h with ⟨ev, m, mask, kk, e1', i', q1, q2, q3, q4, q5, q6, q7⟩ | ⟨ev, s', q1, q2, q3, q4⟩
          · subst ev
            refine Hr_of (z' := z1) (r := some (.int 1)) (fun K => ?_) ⟨e1, GF_w (by decide) (GF_w (by decide) (GF_w (by decide) (GF_f q7))), Or.inl ⟨rfl, dScene D ns m mask, np, nc, ns + 1, i', ⟨s, e, f 24 6, tk1, Or.inr (Or.inr (Or.inl ⟨i2.mp rfl, q1, m, mask, kk, e1', q2, q3, q4, rfl, rfl, rfl, rfl⟩))⟩, q5, q6, ?_, dr_scene hD q1 q7⟩⟩
            · simp only [↓c_X5_item, ↓e_X5_item_0, ↓e_X5_item_4, ↓e_X5_item_8, ↓e_X5_item_10, ↓e_X5_item_16, ↓e_X5_item_19, ↓e_X5_item_23, ↓e_X5_item_24, ↓e_X5_item_30, ↓e_X5_item_33, ↓e_X5_item_37, ↓e_X5_item_38, ↓e_X5_item_44, ↓e_X5_item_47, ↓e_X5_item_51, ↓e_X5_item_52, ↓e_X5_item_58, ↓e_X5_item_61, ↓e_X5_item_65, ↓e_X5_item_68, ↓e_X5_item_72, ↓e_X5_item_73, v5 o5_24, g5 o5_24, k1', w0, w1, w2, k, zps_s, bI_t, bI_f, i01, or_true, true_and, zk_i, zk_r, zk_n, ↓reduceIte]
            · rw [q7.2, set2_a (by decide), set2_a (by decide), set2_a (by decide)]
          · subst ev
            refine Hr_of (z' := z1) (r := some (.int 0)) (fun K => ?_) ⟨e1, q3, Or.inr ⟨rfl, s', q1, q2, s, e, 1, f 24 6, tk1, by decide, Or.inr ⟨rfl, Or.inr (Or.inr (Or.inl ⟨i2.mp rfl, q4⟩))⟩⟩⟩
            simp only [↓c_X5_item, ↓e_X5_item_0, ↓e_X5_item_4, ↓e_X5_item_8, ↓e_X5_item_10, ↓e_X5_item_16, ↓e_X5_item_19, ↓e_X5_item_23, ↓e_X5_item_24, ↓e_X5_item_30, ↓e_X5_item_33, ↓e_X5_item_37, ↓e_X5_item_38, ↓e_X5_item_44, ↓e_X5_item_47, ↓e_X5_item_51, ↓e_X5_item_52, ↓e_X5_item_58, ↓e_X5_item_61, ↓e_X5_item_65, ↓e_X5_item_68, ↓e_X5_item_72, ↓e_X5_item_73, v5 o5_24, g5 o5_24, k1', w0, w1, w2, k, zps_s, bI_t, bI_f, i01, true_or, true_and, zk_i, zk_r, zk_n, ↓reduceIte]
        | false =>
          cases b3 with
          | true =>
            obtain ⟨v, z1, ⟨e1, h⟩, k⟩ := Hr_use (x_wishItem E d (t := t) ht hx he h3 hD.1 hD.2.2.2.1 hD.2.1 hD.2.2.2.2.1 hD.2.2.1 hD.2.2.2.2.2.1)
            rcases h with ⟨ev, x, w, kk, e1', i', q1, q2, q3, q4, q5, q6⟩ | ⟨ev, s', q1, q2, q3, q4⟩
            · subst ev
              refine Hr_of (z' := z1) (r := some (.int 1)) (fun K => ?_) ⟨e1, GF_w (by decide) (GF_w (by decide) (GF_w (by decide) (GF_f q6))), Or.inl ⟨rfl, dWish D x w, np, nc, ns, i', ⟨s, e, f 24 6, tk1, Or.inr (Or.inr (Or.inr ⟨i3.mp rfl, x, w, kk, e1', q1, q2, q3, rfl, rfl, rfl, rfl⟩))⟩, q4, q5, ?_, dr_wish hD (by have := q1.2.1; have := hD.2.1; omega) q6⟩⟩
              · simp only [↓c_X5_item, ↓e_X5_item_0, ↓e_X5_item_4, ↓e_X5_item_8, ↓e_X5_item_10, ↓e_X5_item_16, ↓e_X5_item_19, ↓e_X5_item_23, ↓e_X5_item_24, ↓e_X5_item_30, ↓e_X5_item_33, ↓e_X5_item_37, ↓e_X5_item_38, ↓e_X5_item_44, ↓e_X5_item_47, ↓e_X5_item_51, ↓e_X5_item_52, ↓e_X5_item_58, ↓e_X5_item_61, ↓e_X5_item_65, ↓e_X5_item_68, ↓e_X5_item_72, ↓e_X5_item_73, v5 o5_24, g5 o5_24, k1', w0, w1, w2, w3, k, zps_s, bI_t, bI_f, i01, or_true, true_and, zk_i, zk_r, zk_n, ↓reduceIte]
              · rw [q6.2, ws_n _ _ _ (by decide)]
            · subst ev
              refine Hr_of (z' := z1) (r := some (.int 0)) (fun K => ?_) ⟨e1, q3, Or.inr ⟨rfl, s', q1, q2, s, e, 1, f 24 6, tk1, by decide, Or.inr ⟨rfl, Or.inr (Or.inr (Or.inr (Or.inl ⟨i3.mp rfl, q4⟩)))⟩⟩⟩
              simp only [↓c_X5_item, ↓e_X5_item_0, ↓e_X5_item_4, ↓e_X5_item_8, ↓e_X5_item_10, ↓e_X5_item_16, ↓e_X5_item_19, ↓e_X5_item_23, ↓e_X5_item_24, ↓e_X5_item_30, ↓e_X5_item_33, ↓e_X5_item_37, ↓e_X5_item_38, ↓e_X5_item_44, ↓e_X5_item_47, ↓e_X5_item_51, ↓e_X5_item_52, ↓e_X5_item_58, ↓e_X5_item_61, ↓e_X5_item_65, ↓e_X5_item_68, ↓e_X5_item_72, ↓e_X5_item_73, v5 o5_24, g5 o5_24, k1', w0, w1, w2, w3, k, zps_s, bI_t, bI_f, i01, true_or, true_and, zk_i, zk_r, zk_n, ↓reduceIte]
          | false =>
            refine Hr_of (z' := (f, t)) (r := some (.int 0)) (fun K => ?_) ⟨rfl, GF_r f, Or.inr ⟨rfl, s, h4, hs, s, e, 1, f 24 6, tk1, by decide, Or.inr ⟨rfl, Or.inr (Or.inr (Or.inr (Or.inr ⟨fun a ha => ?_, rfl⟩)))⟩⟩⟩
            · simp only [↓c_X5_item, ↓e_X5_item_0, ↓e_X5_item_4, ↓e_X5_item_8, ↓e_X5_item_10, ↓e_X5_item_16, ↓e_X5_item_19, ↓e_X5_item_23, ↓e_X5_item_24, ↓e_X5_item_30, ↓e_X5_item_33, ↓e_X5_item_37, ↓e_X5_item_38, ↓e_X5_item_44, ↓e_X5_item_47, ↓e_X5_item_51, ↓e_X5_item_52, ↓e_X5_item_58, ↓e_X5_item_61, ↓e_X5_item_65, ↓e_X5_item_68, ↓e_X5_item_72, ↓e_X5_item_73, v5 o5_24, g5 o5_24, k1', w0, w1, w2, w3, zps_s, bI_f, true_or, true_and, zk_i, zk_r, zk_n, ↓reduceIte]
            · rcases (by omega : a = 0 ∨ a = 1 ∨ a = 2 ∨ a = 3) with q | q | q | q
              · subst q
                exact fun h => absurd (i0.mpr h) (by decide)
              · subst q
                exact fun h => absurd (i1.mpr h) (by decide)
              · subst q
                exact fun h => absurd (i2.mpr h) (by decide)
              · subst q
                exact fun h => absurd (i3.mpr h) (by decide)
  · refine Hr_of (z' := (f, t)) (r := some (.int 0)) (fun K => ?_) ⟨rfl, GF_r f, Or.inr ⟨rfl, s, h4, hs, s, e, _, _, htk, h5, Or.inl ⟨k1, rfl⟩⟩⟩
    simp only [↓c_X5_item, ↓e_X5_item_0, ↓e_X5_item_4, ↓e_X5_item_8, ↓e_X5_item_10, ↓e_X5_item_16, ↓e_X5_item_19, ↓e_X5_item_23, ↓e_X5_item_24, ↓e_X5_item_30, ↓e_X5_item_33, ↓e_X5_item_37, ↓e_X5_item_38, ↓e_X5_item_44, ↓e_X5_item_47, ↓e_X5_item_51, ↓e_X5_item_52, ↓e_X5_item_58, ↓e_X5_item_61, ↓e_X5_item_65, ↓e_X5_item_68, ↓e_X5_item_72, ↓e_X5_item_73, v5 o5_24, g5 o5_24, k1, true_or, true_and, zk_i, zk_r, zk_n, ↓reduceIte]
end RT9
