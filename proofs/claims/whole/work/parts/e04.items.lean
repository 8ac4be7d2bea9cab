/-! READ: words, parts and children, in the class -/
section RI
variable {tx : Nat → Int32} {nl : Nat}
theorem Fr_w {f f' : Nat → Nat → Int32} {r p : Nat} {x : Int32} (hr : r ≠ 24) (h : Fr f f') : Fr (set2 f r p x) (set2 f' r p x) := by
  refine ⟨fun a ha => ?_, ?_⟩
  · funext j
    unfold set2
    rw [h.1 a ha]
  · rw [set2_a (fun e => hr e.symm), set2_a (fun e => hr e.symm)]
    exact h.2
theorem RX_w {f : Nat → Nat → Int32} {r p : Nat} {x : Int32} (hr : r ≠ 24) (h18 : r ≠ 18) (h : RX f tx nl) : RX (set2 f r p x) tx nl := RX_c (set2_a (fun e => h18 e.symm)) (by rw [set2_a (fun e => hr e.symm)]) h
def wdP (tx : Nat → Int32) (s e a : Nat) : Prop := e = s + (zword a).length ∧ ∀ j, j < (zword a).length → tx (s + j) = (zword a).getD j 0
theorem wd_l : ∀ a, a < 4 → 0 < (zword a).length ∧ (zword a).length ≤ 5 := by decide
theorem x_isWord (E : zE) (d : Nat) {f : Nat → Nat → Int32} {t : (Nat → Nat → Int64) × Nat} (ht : t.2 = 18) (hx : RX f tx nl) {s e a : Nat} (ha : a < 4) (hse : s ≤ e) (he : e ≤ nl) (h3 : f 24 3 = nI e) (h4 : f 24 4 = nI s) : Hr E (d + 4) 52 [.ref 24, .ref (1000 + a)] (f, t) (fun v z' => z' = (f, t) ∧ ((v = some (.int 1) ∧ wdP tx s e a) ∨ (v = some (.int 0) ∧ ¬ wdP tx s e a))) := by
  have h240 := hx.2.1
  obtain ⟨l1, l2⟩ := wd_l a ha
  have zl : ∀ K, zsl (1000 + a) K = K (nI (zword a).length) := fun K => by
    unfold zsl
    rw [if_pos (by omega), show 1000 + a - 1000 = a by omega]
    rfl
  have zc : ∀ j, j < (zword a).length → ∀ K, zsc (1000 + a) (nI j) K = K ((zword a).getD j 0) := fun j hj K => by
    unfold zsc
    have e1 : (nI j).toNatClampNeg = j := nI_cl (by omega)
    rw [show 1000 + a - 1000 = a by omega, e1, if_pos ⟨by omega, by omega, fun h => h.elim (nI_pos (by omega)) (fun h => by omega)⟩]
  unfold Hr
  generalize hQ : (fun (v : Option Value) (h : zH) => ∃ z' : zS, h = HP z' ∧ (z' = (f, t) ∧ ((v = some (.int 1) ∧ wdP tx s e a) ∨ (v = some (.int 0) ∧ ¬ wdP tx s e a)))) = Q
  have no : ¬ wdP tx s e a → Q (some (.int 0)) (HP (f, t)) := fun h => by
    rw [← hQ]
    exact ⟨(f, t), rfl, rfl, Or.inr ⟨rfl, h⟩⟩
  have sb : nI e - nI s = nI (e - s) := by rw [Int32.sub_eq_iff_eq_add, nI_add, Nat.sub_add_cancel hse]
  by_cases q : e = s + (zword a).length
  · have q' : (nI (e - s) = nI (zword a).length) = True := eq_true (by rw [show e - s = (zword a).length by omega])
    have loop : ∀ k j, j + k = (zword a).length → (∀ m, m < j → tx (s + m) = (zword a).getD m 0) → Ev E (d + 4) zm_X5_isWord 31 [some (.ref 24), some (.ref (1000 + a)), some (.int (nI j))] [] (HP (f, t)) Q := by
      intro k
      induction k with
      | zero =>
        intro j hjk hm
        have e : j = (zword a).length := by omega
        subst e
        have qq : Q (some (.int 1)) (HP (f, t)) := by
          rw [← hQ]
          exact ⟨(f, t), rfl, rfl, Or.inl ⟨rfl, q, hm⟩⟩
        rw [e_X5_isWord_31]
        simp only [↓e_X5_isWord_4, ↓e_X5_isWord_8, ↓e_X5_isWord_13, ↓e_X5_isWord_16, ↓e_X5_isWord_20, ↓e_X5_isWord_24, ↓e_X5_isWord_27, ↓e_X5_isWord_29, ↓e_X5_isWord_36, ↓e_X5_isWord_39, ↓e_X5_isWord_43, ↓e_X5_isWord_47, ↓e_X5_isWord_50, ↓e_X5_isWord_55, ↓e_X5_isWord_58, ↓e_X5_isWord_60, ↓e_X5_isWord_66, zl, nI_lt_iff (show (zword a).length < 2 ^ 31 by omega) (show (zword a).length < 2 ^ 31 by omega), Nat.lt_irrefl, or_true, true_and, zk_i, zk_r, zk_n, ↓reduceIte]
        exact qq
      | succ k ihk =>
        intro j hjk hm
        have hj : j < (zword a).length := by omega
        have r := ri_k i18 (show s + j < 240 by omega) (by decide) E (f, t)
        have e18 : f 18 (s + j) = tx (s + j) := (hx.2.2.1 (s + j) (by omega)).1
        by_cases c : tx (s + j) = (zword a).getD j 0
        · have nx := ihk (j + 1) (by omega) (fun m hm' => by
            by_cases e : m = j
            · subst e
              exact c
            · exact hm m (by omega))
          have c' : (tx (s + j) = (zword a).getD j 0) = True := eq_true c
          rw [e_X5_isWord_31]
          simp only [↓e_X5_isWord_4, ↓e_X5_isWord_8, ↓e_X5_isWord_13, ↓e_X5_isWord_16, ↓e_X5_isWord_20, ↓e_X5_isWord_24, ↓e_X5_isWord_27, ↓e_X5_isWord_29, ↓e_X5_isWord_36, ↓e_X5_isWord_39, ↓e_X5_isWord_43, ↓e_X5_isWord_47, ↓e_X5_isWord_50, ↓e_X5_isWord_55, ↓e_X5_isWord_58, ↓e_X5_isWord_60, ↓e_X5_isWord_66, g5 o5_24, ht, zl, zc j hj, nI_lt_iff (show j < 2 ^ 31 by omega) (show (zword a).length < 2 ^ 31 by omega), hj, h4, nI_add, r, e18, c', nI_1, zk_i, zk_r, zk_n, ↓reduceIte]
          exact nx
        · have qq := no (fun h => c (h.2 j hj))
          rw [e_X5_isWord_31]
          simp only [↓e_X5_isWord_4, ↓e_X5_isWord_8, ↓e_X5_isWord_13, ↓e_X5_isWord_16, ↓e_X5_isWord_20, ↓e_X5_isWord_24, ↓e_X5_isWord_27, ↓e_X5_isWord_29, ↓e_X5_isWord_36, ↓e_X5_isWord_39, ↓e_X5_isWord_43, ↓e_X5_isWord_47, ↓e_X5_isWord_50, ↓e_X5_isWord_55, ↓e_X5_isWord_58, ↓e_X5_isWord_60, ↓e_X5_isWord_66, g5 o5_24, ht, zl, zc j hj, nI_lt_iff (show j < 2 ^ 31 by omega) (show (zword a).length < 2 ^ 31 by omega), hj, h4, nI_add, r, e18, c, true_or, true_and, zk_i, zk_r, zk_n, ↓reduceIte]
          exact qq
    have start := loop (zword a).length 0 (by omega) (fun m hm => by omega)
    rw [nI_0] at start
    have ne : (nI nl < nI e) = False := eq_false (by rw [nI_lt_iff (by omega) (by omega)]; omega)
    simp only [↓c_X5_isWord, ↓e_X5_isWord_0, ↓e_X5_isWord_4, ↓e_X5_isWord_8, ↓e_X5_isWord_13, ↓e_X5_isWord_16, ↓e_X5_isWord_20, ↓e_X5_isWord_24, ↓e_X5_isWord_27, ↓e_X5_isWord_29, ↓e_X5_isWord_36, ↓e_X5_isWord_39, ↓e_X5_isWord_43, ↓e_X5_isWord_47, ↓e_X5_isWord_50, ↓e_X5_isWord_55, ↓e_X5_isWord_58, ↓e_X5_isWord_60, ↓e_X5_isWord_66, g5 o5_24, h3, h4, hx.1, zl, sb, q', ne, zk_i, zk_r, zk_n, ↓reduceIte]
    exact start
  · have q' : (nI (e - s) = nI (zword a).length) = False := eq_false (by rw [nI_eq (by omega) (by omega)]; omega)
    have qq := no (fun h => q h.1)
    simp only [↓c_X5_isWord, ↓e_X5_isWord_0, ↓e_X5_isWord_4, ↓e_X5_isWord_8, ↓e_X5_isWord_13, ↓e_X5_isWord_16, ↓e_X5_isWord_20, ↓e_X5_isWord_24, ↓e_X5_isWord_27, ↓e_X5_isWord_29, ↓e_X5_isWord_36, ↓e_X5_isWord_39, ↓e_X5_isWord_43, ↓e_X5_isWord_47, ↓e_X5_isWord_50, ↓e_X5_isWord_55, ↓e_X5_isWord_58, ↓e_X5_isWord_60, ↓e_X5_isWord_66, g5 o5_24, h3, h4, hx.1, zl, sb, q', true_or, true_and, zk_i, zk_r, zk_n, ↓reduceIte]
    exact qq
set_option maxRecDepth 100000 in
theorem x_partItem (E : zE) (d : Nat) {f : Nat → Nat → Int32} {t : (Nat → Nat → Int64) × Nat} (ht : t.2 = 18) (hx : RX f tx nl) {i s0 np : Nat} (hi : i ≤ nl) (h3 : f 24 3 = nI i) (h4 : f 24 4 = nI s0) (hs0 : s0 ≤ nl) (hnp : np ≤ 6) (hp : f 25 0 = nI np) : Hr E (d + 4) 45 [.ref 24] (f, t) (fun v z' => z'.2 = t ∧ ((v = some (.int 1) ∧ ∃ a b c i', np < 6 ∧ NumsS tx [(0, 7), (0, 61), (0, 10)] i [a, b, c] i' ∧ i' ≤ nl ∧ z'.1 24 3 = nI i' ∧ Fr (set2 (set2 (set2 (set2 f 25 0 (nI (np + 1))) 26 np (nI a)) 27 np (nI b)) 28 np (nI c)) z'.1) ∨ (v = some (.int 0) ∧ ∃ s, z'.1 24 4 = nI s ∧ s ≤ nl ∧ GF f z'.1 ∧ ((np = 6 ∧ s = s0) ∨ (np < 6 ∧ NumsF tx [(0, 7), (0, 61), (0, 10)] i s))))) := by
  have pn : (nI np < 0) = False := eq_false (nI_pos (by omega))
  unfold Hr
  generalize hQ : (fun (v : Option Value) (h : zH) => ∃ z' : zS, h = HP z' ∧ (z'.2 = t ∧ ((v = some (.int 1) ∧ ∃ a b c i', np < 6 ∧ NumsS tx [(0, 7), (0, 61), (0, 10)] i [a, b, c] i' ∧ i' ≤ nl ∧ z'.1 24 3 = nI i' ∧ Fr (set2 (set2 (set2 (set2 f 25 0 (nI (np + 1))) 26 np (nI a)) 27 np (nI b)) 28 np (nI c)) z'.1) ∨ (v = some (.int 0) ∧ ∃ s, z'.1 24 4 = nI s ∧ s ≤ nl ∧ GF f z'.1 ∧ ((np = 6 ∧ s = s0) ∨ (np < 6 ∧ NumsF tx [(0, 7), (0, 61), (0, 10)] i s)))))) = Q
  by_cases q6 : np < 6
  · have bad : ∀ (f' : Nat → Nat → Int32) s, f' 24 4 = nI s → s ≤ nl → GF f f' → NumsF tx [(0, 7), (0, 61), (0, 10)] i s → Q (some (.int 0)) (HP (f', t)) := fun f' s h1 h2 hg h3 => by
      rw [← hQ]
      exact ⟨(f', t), rfl, rfl, Or.inr ⟨rfl, s, h1, h2, hg, Or.inr ⟨q6, h3⟩⟩⟩
    have p84 : ∀ (f' : Nat → Nat → Int32) a e1 b e2 c e3, Num tx i 0 7 a e1 → Num tx e1 0 61 b e2 → Num tx e2 0 10 c e3 → e3 ≤ nl → f' 24 3 = nI e3 → Fr (set2 (set2 (set2 (set2 f 25 0 (nI (np + 1))) 26 np (nI a)) 27 np (nI b)) 28 np (nI c)) f' → Ev E (d + 4) zm_X5_partItem 84 [some (.ref 24), some (.int (nI np))] [] (HP (f', t)) Q := fun f' a e1 b e2 c e3 n1 n2 n3 he h3' hf => by
      have hx' : RX f' tx nl := Fr_x hf (RX_w (by decide) (by decide) (RX_w (by decide) (by decide) (RX_w (by decide) (by decide) (RX_w (by decide) (by decide) hx))))
      obtain ⟨v, z1, ⟨g1', g2'⟩, k⟩ := Hr_use (x_stop E d (t := t) ht hx' he h3')
      obtain ⟨fz, tz⟩ := z1
      dsimp only at g1' g2'
      subst g1'
      rcases g2' with ⟨ev, e, r1, r2, r3, r4⟩ | ⟨ev, s, r1, r2, r3, r4⟩
      · subst ev
        have qq : Q (some (.int 1)) (HP (fz, tz)) := by
          rw [← hQ]
          exact ⟨(fz, tz), rfl, rfl, Or.inl ⟨rfl, a, b, c, e, q6, ⟨a, e1, _, rfl, n1, b, e2, _, rfl, n2, c, e3, _, rfl, n3, rfl, r1⟩, r2, r3, Fr_t hf r4⟩⟩
        rw [e_X5_partItem_84]
        simp only [↓e_X5_partItem_4, ↓e_X5_partItem_7, ↓e_X5_partItem_12, ↓e_X5_partItem_18, ↓e_X5_partItem_20, ↓e_X5_partItem_24, ↓e_X5_partItem_35, ↓e_X5_partItem_38, ↓e_X5_partItem_45, ↓e_X5_partItem_53, ↓e_X5_partItem_56, ↓e_X5_partItem_63, ↓e_X5_partItem_71, ↓e_X5_partItem_74, ↓e_X5_partItem_81, ↓e_X5_partItem_88, ↓e_X5_partItem_91, ↓e_X5_partItem_95, ↓e_X5_partItem_96, v5 o5_24, k, zps_s, i01, or_true, true_and, zk_i, zk_r, zk_n, ↓reduceIte]
        exact qq
      · subst ev
        have qq := bad fz s r3 r2 (GF_t (GF_w (by decide) (GF_w (by decide) (GF_w (by decide) (GF_w (by decide) (GF_f hf))))) (GF_f r4)) (Or.inr ⟨a, e1, n1, Or.inr ⟨b, e2, n2, Or.inr ⟨c, e3, n3, r1⟩⟩⟩)
        rw [e_X5_partItem_84]
        simp only [↓e_X5_partItem_4, ↓e_X5_partItem_7, ↓e_X5_partItem_12, ↓e_X5_partItem_18, ↓e_X5_partItem_20, ↓e_X5_partItem_24, ↓e_X5_partItem_35, ↓e_X5_partItem_38, ↓e_X5_partItem_45, ↓e_X5_partItem_53, ↓e_X5_partItem_56, ↓e_X5_partItem_63, ↓e_X5_partItem_71, ↓e_X5_partItem_74, ↓e_X5_partItem_81, ↓e_X5_partItem_88, ↓e_X5_partItem_91, ↓e_X5_partItem_95, ↓e_X5_partItem_96, v5 o5_24, k, zps_s, true_or, true_and, zk_i, zk_r, zk_n, ↓reduceIte]
        exact qq
    have p66 : ∀ (f' : Nat → Nat → Int32) a e1 b e2, Num tx i 0 7 a e1 → Num tx e1 0 61 b e2 → e2 ≤ nl → f' 24 3 = nI e2 → Fr (set2 (set2 (set2 f 25 0 (nI (np + 1))) 26 np (nI a)) 27 np (nI b)) f' → Ev E (d + 4) zm_X5_partItem 66 [some (.ref 24), some (.int (nI np))] [] (HP (f', t)) Q := fun f' a e1 b e2 n1 n2 he h3' hf => by
      have hx' : RX f' tx nl := Fr_x hf (RX_w (by decide) (by decide) (RX_w (by decide) (by decide) (RX_w (by decide) (by decide) hx)))
      obtain ⟨v, z1, ⟨g1', g2'⟩, k⟩ := Hr_use (x_number E d (t := t) ht hx' he h3' (r := 28) (m := 6) rfl (by decide) q6 (by decide) (lo := 0) (hb := 10) (by decide) (by decide) (lv := 0) (hv := 9) (by decide) (by decide))
      obtain ⟨fz, tz⟩ := z1
      dsimp only at g1' g2'
      subst g1'
      rcases g2' with ⟨ev, n, e, r1, r2, r3, r4⟩ | ⟨ev, s, r1, r2, r3, r4⟩
      · subst ev
        have nx := p84 fz a e1 b e2 n e n1 n2 r1 r2 r3 (Fr_t (Fr_w (by decide) hf) r4)
        rw [e_X5_partItem_66]
        simp only [↓e_X5_partItem_4, ↓e_X5_partItem_7, ↓e_X5_partItem_12, ↓e_X5_partItem_18, ↓e_X5_partItem_20, ↓e_X5_partItem_24, ↓e_X5_partItem_35, ↓e_X5_partItem_38, ↓e_X5_partItem_45, ↓e_X5_partItem_53, ↓e_X5_partItem_56, ↓e_X5_partItem_63, ↓e_X5_partItem_71, ↓e_X5_partItem_74, ↓e_X5_partItem_81, ↓e_X5_partItem_88, ↓e_X5_partItem_91, ↓e_X5_partItem_95, ↓e_X5_partItem_96, v5 o5_24, g5 o5_24, g6 isS_25.1, Nat.reduceAdd, k, zps_s, i01, zk_i, zk_r, zk_n, ↓reduceIte]
        exact nx
      · subst ev
        have qq := bad fz s r3 r2 (GF_t (GF_w (by decide) (GF_w (by decide) (GF_w (by decide) (GF_f hf)))) (GF_f r4)) (Or.inr ⟨a, e1, n1, Or.inr ⟨b, e2, n2, Or.inl r1⟩⟩)
        rw [e_X5_partItem_66]
        simp only [↓e_X5_partItem_4, ↓e_X5_partItem_7, ↓e_X5_partItem_12, ↓e_X5_partItem_18, ↓e_X5_partItem_20, ↓e_X5_partItem_24, ↓e_X5_partItem_35, ↓e_X5_partItem_38, ↓e_X5_partItem_45, ↓e_X5_partItem_53, ↓e_X5_partItem_56, ↓e_X5_partItem_63, ↓e_X5_partItem_71, ↓e_X5_partItem_74, ↓e_X5_partItem_81, ↓e_X5_partItem_88, ↓e_X5_partItem_91, ↓e_X5_partItem_95, ↓e_X5_partItem_96, v5 o5_24, g5 o5_24, g6 isS_25.1, Nat.reduceAdd, k, zps_s, true_or, true_and, zk_i, zk_r, zk_n, ↓reduceIte]
        exact qq
    have p48 : ∀ (f' : Nat → Nat → Int32) a e1, Num tx i 0 7 a e1 → e1 ≤ nl → f' 24 3 = nI e1 → Fr (set2 (set2 f 25 0 (nI (np + 1))) 26 np (nI a)) f' → Ev E (d + 4) zm_X5_partItem 48 [some (.ref 24), some (.int (nI np))] [] (HP (f', t)) Q := fun f' a e1 n1 he h3' hf => by
      have hx' : RX f' tx nl := Fr_x hf (RX_w (by decide) (by decide) (RX_w (by decide) (by decide) hx))
      obtain ⟨v, z1, ⟨g1', g2'⟩, k⟩ := Hr_use (x_number E d (t := t) ht hx' he h3' (r := 27) (m := 6) rfl (by decide) q6 (by decide) (lo := 0) (hb := 61) (by decide) (by decide) (lv := 0) (hv := 60) (by decide) (by decide))
      obtain ⟨fz, tz⟩ := z1
      dsimp only at g1' g2'
      subst g1'
      rcases g2' with ⟨ev, n, e, r1, r2, r3, r4⟩ | ⟨ev, s, r1, r2, r3, r4⟩
      · subst ev
        have nx := p66 fz a e1 n e n1 r1 r2 r3 (Fr_t (Fr_w (by decide) hf) r4)
        rw [e_X5_partItem_48]
        simp only [↓e_X5_partItem_4, ↓e_X5_partItem_7, ↓e_X5_partItem_12, ↓e_X5_partItem_18, ↓e_X5_partItem_20, ↓e_X5_partItem_24, ↓e_X5_partItem_35, ↓e_X5_partItem_38, ↓e_X5_partItem_45, ↓e_X5_partItem_53, ↓e_X5_partItem_56, ↓e_X5_partItem_63, ↓e_X5_partItem_71, ↓e_X5_partItem_74, ↓e_X5_partItem_81, ↓e_X5_partItem_88, ↓e_X5_partItem_91, ↓e_X5_partItem_95, ↓e_X5_partItem_96, v5 o5_24, g5 o5_24, g6 isS_25.1, Nat.reduceAdd, k, zps_s, i01, zk_i, zk_r, zk_n, ↓reduceIte]
        exact nx
      · subst ev
        have qq := bad fz s r3 r2 (GF_t (GF_w (by decide) (GF_w (by decide) (GF_f hf))) (GF_f r4)) (Or.inr ⟨a, e1, n1, Or.inl r1⟩)
        rw [e_X5_partItem_48]
        simp only [↓e_X5_partItem_4, ↓e_X5_partItem_7, ↓e_X5_partItem_12, ↓e_X5_partItem_18, ↓e_X5_partItem_20, ↓e_X5_partItem_24, ↓e_X5_partItem_35, ↓e_X5_partItem_38, ↓e_X5_partItem_45, ↓e_X5_partItem_53, ↓e_X5_partItem_56, ↓e_X5_partItem_63, ↓e_X5_partItem_71, ↓e_X5_partItem_74, ↓e_X5_partItem_81, ↓e_X5_partItem_88, ↓e_X5_partItem_91, ↓e_X5_partItem_95, ↓e_X5_partItem_96, v5 o5_24, g5 o5_24, g6 isS_25.1, Nat.reduceAdd, k, zps_s, true_or, true_and, zk_i, zk_r, zk_n, ↓reduceIte]
        exact qq
    have p30 : ∀ (f' : Nat → Nat → Int32), f' 24 3 = nI i → Fr (set2 f 25 0 (nI (np + 1))) f' → Ev E (d + 4) zm_X5_partItem 30 [some (.ref 24), some (.int (nI np))] [] (HP (f', t)) Q := fun f' h3' hf => by
      have hx' : RX f' tx nl := Fr_x hf (RX_w (by decide) (by decide) hx)
      obtain ⟨v, z1, ⟨g1', g2'⟩, k⟩ := Hr_use (x_number E d (t := t) ht hx' hi h3' (r := 26) (m := 6) rfl (by decide) q6 (by decide) (lo := 0) (hb := 7) (by decide) (by decide) (lv := 0) (hv := 6) (by decide) (by decide))
      obtain ⟨fz, tz⟩ := z1
      dsimp only at g1' g2'
      subst g1'
      rcases g2' with ⟨ev, n, e, r1, r2, r3, r4⟩ | ⟨ev, s, r1, r2, r3, r4⟩
      · subst ev
        have nx := p48 fz n e r1 r2 r3 (Fr_t (Fr_w (by decide) hf) r4)
        rw [e_X5_partItem_30]
        simp only [↓e_X5_partItem_4, ↓e_X5_partItem_7, ↓e_X5_partItem_12, ↓e_X5_partItem_18, ↓e_X5_partItem_20, ↓e_X5_partItem_24, ↓e_X5_partItem_35, ↓e_X5_partItem_38, ↓e_X5_partItem_45, ↓e_X5_partItem_53, ↓e_X5_partItem_56, ↓e_X5_partItem_63, ↓e_X5_partItem_71, ↓e_X5_partItem_74, ↓e_X5_partItem_81, ↓e_X5_partItem_88, ↓e_X5_partItem_91, ↓e_X5_partItem_95, ↓e_X5_partItem_96, v5 o5_24, g5 o5_24, g6 isS_25.1, Nat.reduceAdd, k, zps_s, i01, zk_i, zk_r, zk_n, ↓reduceIte]
        exact nx
      · subst ev
        have qq := bad fz s r3 r2 (GF_t (GF_w (by decide) (GF_f hf)) (GF_f r4)) (Or.inl r1)
        rw [e_X5_partItem_30]
        simp only [↓e_X5_partItem_4, ↓e_X5_partItem_7, ↓e_X5_partItem_12, ↓e_X5_partItem_18, ↓e_X5_partItem_20, ↓e_X5_partItem_24, ↓e_X5_partItem_35, ↓e_X5_partItem_38, ↓e_X5_partItem_45, ↓e_X5_partItem_53, ↓e_X5_partItem_56, ↓e_X5_partItem_63, ↓e_X5_partItem_71, ↓e_X5_partItem_74, ↓e_X5_partItem_81, ↓e_X5_partItem_88, ↓e_X5_partItem_91, ↓e_X5_partItem_95, ↓e_X5_partItem_96, v5 o5_24, g5 o5_24, g6 isS_25.1, Nat.reduceAdd, k, zps_s, true_or, true_and, zk_i, zk_r, zk_n, ↓reduceIte]
        exact qq
    obtain ⟨f1, hf1⟩ : ∃ g : Nat → Nat → Int32, g = set2 f 25 0 (nI (np + 1)) := ⟨_, rfl⟩
    have w := fun K => (p6 isS_25.1).1 (f, t) (nI (np + 1)) K
    dsimp only at w
    rw [← hf1] at w
    have nx := p30 f1 (by rw [hf1, set2_a (by decide)]; exact h3) (by rw [hf1]; exact Fr_r _)
    simp only [↓c_X5_partItem, ↓e_X5_partItem_0, ↓e_X5_partItem_4, ↓e_X5_partItem_7, ↓e_X5_partItem_12, ↓e_X5_partItem_18, ↓e_X5_partItem_20, ↓e_X5_partItem_24, ↓e_X5_partItem_35, ↓e_X5_partItem_38, ↓e_X5_partItem_45, ↓e_X5_partItem_53, ↓e_X5_partItem_56, ↓e_X5_partItem_63, ↓e_X5_partItem_71, ↓e_X5_partItem_74, ↓e_X5_partItem_81, ↓e_X5_partItem_88, ↓e_X5_partItem_91, ↓e_X5_partItem_95, ↓e_X5_partItem_96, v5 o5_24, g5 o5_24, g6 isS_25.1, Nat.reduceAdd, hp, pn, show (6 : Int32) = nI 6 from by decide, nI_lt_iff (show np < 2 ^ 31 by omega) (show 6 < 2 ^ 31 by decide), q6, nI_1, w, zk_i, zk_r, zk_n, ↓reduceIte]
    exact nx
  · have qq : Q (some (.int 0)) (HP (f, t)) := by
      rw [← hQ]
      exact ⟨(f, t), rfl, rfl, Or.inr ⟨rfl, s0, h4, hs0, GF_r f, Or.inl ⟨by omega, rfl⟩⟩⟩
    simp only [↓c_X5_partItem, ↓e_X5_partItem_0, ↓e_X5_partItem_4, ↓e_X5_partItem_7, ↓e_X5_partItem_12, ↓e_X5_partItem_18, ↓e_X5_partItem_20, ↓e_X5_partItem_24, ↓e_X5_partItem_35, ↓e_X5_partItem_38, ↓e_X5_partItem_45, ↓e_X5_partItem_53, ↓e_X5_partItem_56, ↓e_X5_partItem_63, ↓e_X5_partItem_71, ↓e_X5_partItem_74, ↓e_X5_partItem_81, ↓e_X5_partItem_88, ↓e_X5_partItem_91, ↓e_X5_partItem_95, ↓e_X5_partItem_96, v5 o5_24, g5 o5_24, g6 isS_25.1, Nat.reduceAdd, hp, pn, show (6 : Int32) = nI 6 from by decide, nI_lt_iff (show np < 2 ^ 31 by omega) (show 6 < 2 ^ 31 by decide), q6, true_or, true_and, zk_i, zk_r, zk_n, ↓reduceIte]
    exact qq
end RI
