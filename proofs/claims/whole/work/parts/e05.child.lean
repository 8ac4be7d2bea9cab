/-! READ: children, in the class -/
section RJ
variable {tx : Nat → Int32} {nl : Nat}
set_option maxRecDepth 100000 in
theorem x_childItem (E : zE) (d : Nat) {f : Nat → Nat → Int32} {t : (Nat → Nat → Int64) × Nat} (ht : t.2 = 18) (hx : RX f tx nl) {i s0 nc : Nat} (hi : i ≤ nl) (h3 : f 24 3 = nI i) (h4 : f 24 4 = nI s0) (hs0 : s0 ≤ nl) (hnc : nc ≤ 6) (hp : f 25 4 = nI nc) : Hr E (d + 4) 46 [.ref 24] (f, t) (fun v z' => (z'.2 = t ∧ ((v = some (.int 1) ∧ ∃ a b c g o i', nc < 6 ∧ NumsS tx [(1, 10), (0, 10), (0, 10), (0, 10), (0, 20)] i [a, b, c, g, o] i' ∧ i' ≤ nl ∧ z'.1 24 3 = nI i' ∧ Fr (set2 (set2 (set2 (set2 (set2 (set2 f 25 4 (nI (nc + 1))) 29 nc (nI a)) 30 nc (nI b)) 31 nc (nI c)) 32 nc (nI g)) 33 nc (nI o)) z'.1) ∨ (v = some (.int 0) ∧ ∃ s, z'.1 24 4 = nI s ∧ s ≤ nl ∧ GF f z'.1 ∧ ((nc = 6 ∧ s = s0) ∨ (nc < 6 ∧ NumsF tx [(1, 10), (0, 10), (0, 10), (0, 10), (0, 20)] i s)))))) := by
  have pn : (nI nc < 0) = False := eq_false (nI_pos (by omega))
  unfold Hr
  generalize hQ : (fun (v : Option Value) (h : zH) => ∃ z' : zS, h = HP z' ∧ (z'.2 = t ∧ ((v = some (.int 1) ∧ ∃ a b c g o i', nc < 6 ∧ NumsS tx [(1, 10), (0, 10), (0, 10), (0, 10), (0, 20)] i [a, b, c, g, o] i' ∧ i' ≤ nl ∧ z'.1 24 3 = nI i' ∧ Fr (set2 (set2 (set2 (set2 (set2 (set2 f 25 4 (nI (nc + 1))) 29 nc (nI a)) 30 nc (nI b)) 31 nc (nI c)) 32 nc (nI g)) 33 nc (nI o)) z'.1) ∨ (v = some (.int 0) ∧ ∃ s, z'.1 24 4 = nI s ∧ s ≤ nl ∧ GF f z'.1 ∧ ((nc = 6 ∧ s = s0) ∨ (nc < 6 ∧ NumsF tx [(1, 10), (0, 10), (0, 10), (0, 10), (0, 20)] i s)))))) = Q
  by_cases q6 : nc < 6
  · have bad : ∀ (f' : Nat → Nat → Int32) s, f' 24 4 = nI s → s ≤ nl → GF f f' → NumsF tx [(1, 10), (0, 10), (0, 10), (0, 10), (0, 20)] i s → Q (some (.int 0)) (HP (f', t)) := fun f' s h1 h2 hg h3 => by
      rw [← hQ]
      exact ⟨(f', t), rfl, rfl, Or.inr ⟨rfl, s, h1, h2, hg, Or.inr ⟨q6, h3⟩⟩⟩
    have p120 : ∀ (f' : Nat → Nat → Int32) a e1 b e2 c e3 g e4 o e5, Num tx i 1 10 a e1 → Num tx e1 0 10 b e2 → Num tx e2 0 10 c e3 → Num tx e3 0 10 g e4 → Num tx e4 0 20 o e5 → e5 ≤ nl → f' 24 3 = nI e5 → Fr (set2 (set2 (set2 (set2 (set2 (set2 f 25 4 (nI (nc + 1))) 29 nc (nI a)) 30 nc (nI b)) 31 nc (nI c)) 32 nc (nI g)) 33 nc (nI o)) f' → Ev E (d + 4) zm_X5_childItem 120 [some (.ref 24), some (.int (nI nc))] [] (HP (f', t)) Q := fun f' a e1 b e2 c e3 g e4 o e5 m0 m1 m2 m3 m4 he h3' hf => by
      have hx' : RX f' tx nl := Fr_x hf (RX_w (by decide) (by decide) (RX_w (by decide) (by decide) (RX_w (by decide) (by decide) (RX_w (by decide) (by decide) (RX_w (by decide) (by decide) (RX_w (by decide) (by decide) hx))))))
      obtain ⟨v, z1, ⟨g1', g2'⟩, k⟩ := Hr_use (x_stop E d (t := t) ht hx' he h3')
      obtain ⟨fz, tz⟩ := z1
      dsimp only at g1' g2'
      subst g1'
      rcases g2' with ⟨ev, e, r1, r2, r3, r4⟩ | ⟨ev, s, r1, r2, r3, r4⟩
      · subst ev
        have qq : Q (some (.int 1)) (HP (fz, tz)) := by
          rw [← hQ]
          exact ⟨(fz, tz), rfl, rfl, Or.inl ⟨rfl, a, b, c, g, o, e, q6, ⟨a, e1, _, rfl, m0, b, e2, _, rfl, m1, c, e3, _, rfl, m2, g, e4, _, rfl, m3, o, e5, _, rfl, m4, rfl, r1⟩, r2, r3, Fr_t hf r4⟩⟩
        rw [e_X5_childItem_120]
        simp only [↓e_X5_childItem_4, ↓e_X5_childItem_7, ↓e_X5_childItem_12, ↓e_X5_childItem_18, ↓e_X5_childItem_20, ↓e_X5_childItem_24, ↓e_X5_childItem_35, ↓e_X5_childItem_38, ↓e_X5_childItem_45, ↓e_X5_childItem_53, ↓e_X5_childItem_56, ↓e_X5_childItem_63, ↓e_X5_childItem_71, ↓e_X5_childItem_74, ↓e_X5_childItem_81, ↓e_X5_childItem_89, ↓e_X5_childItem_92, ↓e_X5_childItem_99, ↓e_X5_childItem_107, ↓e_X5_childItem_110, ↓e_X5_childItem_117, ↓e_X5_childItem_124, ↓e_X5_childItem_127, ↓e_X5_childItem_131, ↓e_X5_childItem_132, v5 o5_24, k, zps_s, i01, or_true, true_and, zk_i, zk_r, zk_n, ↓reduceIte]
        exact qq
      · subst ev
        have qq := bad fz s r3 r2 (GF_t (GF_w (by decide) (GF_w (by decide) (GF_w (by decide) (GF_w (by decide) (GF_w (by decide) (GF_w (by decide) (GF_f hf))))))) (GF_f r4)) (Or.inr ⟨a, e1, m0, Or.inr ⟨b, e2, m1, Or.inr ⟨c, e3, m2, Or.inr ⟨g, e4, m3, Or.inr ⟨o, e5, m4, r1⟩⟩⟩⟩⟩)
        rw [e_X5_childItem_120]
        simp only [↓e_X5_childItem_4, ↓e_X5_childItem_7, ↓e_X5_childItem_12, ↓e_X5_childItem_18, ↓e_X5_childItem_20, ↓e_X5_childItem_24, ↓e_X5_childItem_35, ↓e_X5_childItem_38, ↓e_X5_childItem_45, ↓e_X5_childItem_53, ↓e_X5_childItem_56, ↓e_X5_childItem_63, ↓e_X5_childItem_71, ↓e_X5_childItem_74, ↓e_X5_childItem_81, ↓e_X5_childItem_89, ↓e_X5_childItem_92, ↓e_X5_childItem_99, ↓e_X5_childItem_107, ↓e_X5_childItem_110, ↓e_X5_childItem_117, ↓e_X5_childItem_124, ↓e_X5_childItem_127, ↓e_X5_childItem_131, ↓e_X5_childItem_132, v5 o5_24, k, zps_s, true_or, true_and, zk_i, zk_r, zk_n, ↓reduceIte]
        exact qq
    have p102 : ∀ (f' : Nat → Nat → Int32) a e1 b e2 c e3 g e4, Num tx i 1 10 a e1 → Num tx e1 0 10 b e2 → Num tx e2 0 10 c e3 → Num tx e3 0 10 g e4 → e4 ≤ nl → f' 24 3 = nI e4 → Fr (set2 (set2 (set2 (set2 (set2 f 25 4 (nI (nc + 1))) 29 nc (nI a)) 30 nc (nI b)) 31 nc (nI c)) 32 nc (nI g)) f' → Ev E (d + 4) zm_X5_childItem 102 [some (.ref 24), some (.int (nI nc))] [] (HP (f', t)) Q := fun f' a e1 b e2 c e3 g e4 m0 m1 m2 m3 he h3' hf => by
      have hx' : RX f' tx nl := Fr_x hf (RX_w (by decide) (by decide) (RX_w (by decide) (by decide) (RX_w (by decide) (by decide) (RX_w (by decide) (by decide) (RX_w (by decide) (by decide) hx)))))
      obtain ⟨v, z1, ⟨g1', g2'⟩, k⟩ := Hr_use (x_number E d (t := t) ht hx' he h3' (r := 33) (m := 6) rfl (by decide) q6 (by decide) (lo := 0) (hb := 20) (by decide) (by decide) (lv := 0) (hv := 19) (by decide) (by decide))
      obtain ⟨fz, tz⟩ := z1
      dsimp only at g1' g2'
      subst g1'
      rcases g2' with ⟨ev, n, e, r1, r2, r3, r4⟩ | ⟨ev, s, r1, r2, r3, r4⟩
      · subst ev
        have nx := p120 fz a e1 b e2 c e3 g e4 n e m0 m1 m2 m3 r1 r2 r3 (Fr_t (Fr_w (by decide) hf) r4)
        rw [e_X5_childItem_102]
        simp only [↓e_X5_childItem_4, ↓e_X5_childItem_7, ↓e_X5_childItem_12, ↓e_X5_childItem_18, ↓e_X5_childItem_20, ↓e_X5_childItem_24, ↓e_X5_childItem_35, ↓e_X5_childItem_38, ↓e_X5_childItem_45, ↓e_X5_childItem_53, ↓e_X5_childItem_56, ↓e_X5_childItem_63, ↓e_X5_childItem_71, ↓e_X5_childItem_74, ↓e_X5_childItem_81, ↓e_X5_childItem_89, ↓e_X5_childItem_92, ↓e_X5_childItem_99, ↓e_X5_childItem_107, ↓e_X5_childItem_110, ↓e_X5_childItem_117, ↓e_X5_childItem_124, ↓e_X5_childItem_127, ↓e_X5_childItem_131, ↓e_X5_childItem_132, v5 o5_24, g5 o5_24, g6 isS_25.1, Nat.reduceAdd, k, zps_s, i01, zk_i, zk_r, zk_n, ↓reduceIte]
        exact nx
      · subst ev
        have qq := bad fz s r3 r2 (GF_t (GF_w (by decide) (GF_w (by decide) (GF_w (by decide) (GF_w (by decide) (GF_w (by decide) (GF_f hf)))))) (GF_f r4)) (Or.inr ⟨a, e1, m0, Or.inr ⟨b, e2, m1, Or.inr ⟨c, e3, m2, Or.inr ⟨g, e4, m3, Or.inl r1⟩⟩⟩⟩)
        rw [e_X5_childItem_102]
        simp only [↓e_X5_childItem_4, ↓e_X5_childItem_7, ↓e_X5_childItem_12, ↓e_X5_childItem_18, ↓e_X5_childItem_20, ↓e_X5_childItem_24, ↓e_X5_childItem_35, ↓e_X5_childItem_38, ↓e_X5_childItem_45, ↓e_X5_childItem_53, ↓e_X5_childItem_56, ↓e_X5_childItem_63, ↓e_X5_childItem_71, ↓e_X5_childItem_74, ↓e_X5_childItem_81, ↓e_X5_childItem_89, ↓e_X5_childItem_92, ↓e_X5_childItem_99, ↓e_X5_childItem_107, ↓e_X5_childItem_110, ↓e_X5_childItem_117, ↓e_X5_childItem_124, ↓e_X5_childItem_127, ↓e_X5_childItem_131, ↓e_X5_childItem_132, v5 o5_24, g5 o5_24, g6 isS_25.1, Nat.reduceAdd, k, zps_s, true_or, true_and, zk_i, zk_r, zk_n, ↓reduceIte]
        exact qq
    have p84 : ∀ (f' : Nat → Nat → Int32) a e1 b e2 c e3, Num tx i 1 10 a e1 → Num tx e1 0 10 b e2 → Num tx e2 0 10 c e3 → e3 ≤ nl → f' 24 3 = nI e3 → Fr (set2 (set2 (set2 (set2 f 25 4 (nI (nc + 1))) 29 nc (nI a)) 30 nc (nI b)) 31 nc (nI c)) f' → Ev E (d + 4) zm_X5_childItem 84 [some (.ref 24), some (.int (nI nc))] [] (HP (f', t)) Q := fun f' a e1 b e2 c e3 m0 m1 m2 he h3' hf => by
      have hx' : RX f' tx nl := Fr_x hf (RX_w (by decide) (by decide) (RX_w (by decide) (by decide) (RX_w (by decide) (by decide) (RX_w (by decide) (by decide) hx))))
      obtain ⟨v, z1, ⟨g1', g2'⟩, k⟩ := Hr_use (x_number E d (t := t) ht hx' he h3' (r := 32) (m := 6) rfl (by decide) q6 (by decide) (lo := 0) (hb := 10) (by decide) (by decide) (lv := 0) (hv := 9) (by decide) (by decide))
      obtain ⟨fz, tz⟩ := z1
      dsimp only at g1' g2'
      subst g1'
      rcases g2' with ⟨ev, n, e, r1, r2, r3, r4⟩ | ⟨ev, s, r1, r2, r3, r4⟩
      · subst ev
        have nx := p102 fz a e1 b e2 c e3 n e m0 m1 m2 r1 r2 r3 (Fr_t (Fr_w (by decide) hf) r4)
        rw [e_X5_childItem_84]
        simp only [↓e_X5_childItem_4, ↓e_X5_childItem_7, ↓e_X5_childItem_12, ↓e_X5_childItem_18, ↓e_X5_childItem_20, ↓e_X5_childItem_24, ↓e_X5_childItem_35, ↓e_X5_childItem_38, ↓e_X5_childItem_45, ↓e_X5_childItem_53, ↓e_X5_childItem_56, ↓e_X5_childItem_63, ↓e_X5_childItem_71, ↓e_X5_childItem_74, ↓e_X5_childItem_81, ↓e_X5_childItem_89, ↓e_X5_childItem_92, ↓e_X5_childItem_99, ↓e_X5_childItem_107, ↓e_X5_childItem_110, ↓e_X5_childItem_117, ↓e_X5_childItem_124, ↓e_X5_childItem_127, ↓e_X5_childItem_131, ↓e_X5_childItem_132, v5 o5_24, g5 o5_24, g6 isS_25.1, Nat.reduceAdd, k, zps_s, i01, zk_i, zk_r, zk_n, ↓reduceIte]
        exact nx
      · subst ev
        have qq := bad fz s r3 r2 (GF_t (GF_w (by decide) (GF_w (by decide) (GF_w (by decide) (GF_w (by decide) (GF_f hf))))) (GF_f r4)) (Or.inr ⟨a, e1, m0, Or.inr ⟨b, e2, m1, Or.inr ⟨c, e3, m2, Or.inl r1⟩⟩⟩)
        rw [e_X5_childItem_84]
        simp only [↓e_X5_childItem_4, ↓e_X5_childItem_7, ↓e_X5_childItem_12, ↓e_X5_childItem_18, ↓e_X5_childItem_20, ↓e_X5_childItem_24, ↓e_X5_childItem_35, ↓e_X5_childItem_38, ↓e_X5_childItem_45, ↓e_X5_childItem_53, ↓e_X5_childItem_56, ↓e_X5_childItem_63, ↓e_X5_childItem_71, ↓e_X5_childItem_74, ↓e_X5_childItem_81, ↓e_X5_childItem_89, ↓e_X5_childItem_92, ↓e_X5_childItem_99, ↓e_X5_childItem_107, ↓e_X5_childItem_110, ↓e_X5_childItem_117, ↓e_X5_childItem_124, ↓e_X5_childItem_127, ↓e_X5_childItem_131, ↓e_X5_childItem_132, v5 o5_24, g5 o5_24, g6 isS_25.1, Nat.reduceAdd, k, zps_s, true_or, true_and, zk_i, zk_r, zk_n, ↓reduceIte]
        exact qq
    have p66 : ∀ (f' : Nat → Nat → Int32) a e1 b e2, Num tx i 1 10 a e1 → Num tx e1 0 10 b e2 → e2 ≤ nl → f' 24 3 = nI e2 → Fr (set2 (set2 (set2 f 25 4 (nI (nc + 1))) 29 nc (nI a)) 30 nc (nI b)) f' → Ev E (d + 4) zm_X5_childItem 66 [some (.ref 24), some (.int (nI nc))] [] (HP (f', t)) Q := fun f' a e1 b e2 m0 m1 he h3' hf => by
      have hx' : RX f' tx nl := Fr_x hf (RX_w (by decide) (by decide) (RX_w (by decide) (by decide) (RX_w (by decide) (by decide) hx)))
      obtain ⟨v, z1, ⟨g1', g2'⟩, k⟩ := Hr_use (x_number E d (t := t) ht hx' he h3' (r := 31) (m := 6) rfl (by decide) q6 (by decide) (lo := 0) (hb := 10) (by decide) (by decide) (lv := 0) (hv := 9) (by decide) (by decide))
      obtain ⟨fz, tz⟩ := z1
      dsimp only at g1' g2'
      subst g1'
      rcases g2' with ⟨ev, n, e, r1, r2, r3, r4⟩ | ⟨ev, s, r1, r2, r3, r4⟩
      · subst ev
        have nx := p84 fz a e1 b e2 n e m0 m1 r1 r2 r3 (Fr_t (Fr_w (by decide) hf) r4)
        rw [e_X5_childItem_66]
        simp only [↓e_X5_childItem_4, ↓e_X5_childItem_7, ↓e_X5_childItem_12, ↓e_X5_childItem_18, ↓e_X5_childItem_20, ↓e_X5_childItem_24, ↓e_X5_childItem_35, ↓e_X5_childItem_38, ↓e_X5_childItem_45, ↓e_X5_childItem_53, ↓e_X5_childItem_56, ↓e_X5_childItem_63, ↓e_X5_childItem_71, ↓e_X5_childItem_74, ↓e_X5_childItem_81, ↓e_X5_childItem_89, ↓e_X5_childItem_92, ↓e_X5_childItem_99, ↓e_X5_childItem_107, ↓e_X5_childItem_110, ↓e_X5_childItem_117, ↓e_X5_childItem_124, ↓e_X5_childItem_127, ↓e_X5_childItem_131, ↓e_X5_childItem_132, v5 o5_24, g5 o5_24, g6 isS_25.1, Nat.reduceAdd, k, zps_s, i01, zk_i, zk_r, zk_n, ↓reduceIte]
        exact nx
      · subst ev
        have qq := bad fz s r3 r2 (GF_t (GF_w (by decide) (GF_w (by decide) (GF_w (by decide) (GF_f hf)))) (GF_f r4)) (Or.inr ⟨a, e1, m0, Or.inr ⟨b, e2, m1, Or.inl r1⟩⟩)
        rw [e_X5_childItem_66]
        simp only [↓e_X5_childItem_4, ↓e_X5_childItem_7, ↓e_X5_childItem_12, ↓e_X5_childItem_18, ↓e_X5_childItem_20, ↓e_X5_childItem_24, ↓e_X5_childItem_35, ↓e_X5_childItem_38, ↓e_X5_childItem_45, ↓e_X5_childItem_53, ↓e_X5_childItem_56, ↓e_X5_childItem_63, ↓e_X5_childItem_71, ↓e_X5_childItem_74, ↓e_X5_childItem_81, ↓e_X5_childItem_89, ↓e_X5_childItem_92, ↓e_X5_childItem_99, ↓e_X5_childItem_107, ↓e_X5_childItem_110, ↓e_X5_childItem_117, ↓e_X5_childItem_124, ↓e_X5_childItem_127, ↓e_X5_childItem_131, ↓e_X5_childItem_132, v5 o5_24, g5 o5_24, g6 isS_25.1, Nat.reduceAdd, k, zps_s, true_or, true_and, zk_i, zk_r, zk_n, ↓reduceIte]
        exact qq
    have p48 : ∀ (f' : Nat → Nat → Int32) a e1, Num tx i 1 10 a e1 → e1 ≤ nl → f' 24 3 = nI e1 → Fr (set2 (set2 f 25 4 (nI (nc + 1))) 29 nc (nI a)) f' → Ev E (d + 4) zm_X5_childItem 48 [some (.ref 24), some (.int (nI nc))] [] (HP (f', t)) Q := fun f' a e1 m0 he h3' hf => by
      have hx' : RX f' tx nl := Fr_x hf (RX_w (by decide) (by decide) (RX_w (by decide) (by decide) hx))
      obtain ⟨v, z1, ⟨g1', g2'⟩, k⟩ := Hr_use (x_number E d (t := t) ht hx' he h3' (r := 30) (m := 6) rfl (by decide) q6 (by decide) (lo := 0) (hb := 10) (by decide) (by decide) (lv := 0) (hv := 9) (by decide) (by decide))
      obtain ⟨fz, tz⟩ := z1
      dsimp only at g1' g2'
      subst g1'
      rcases g2' with ⟨ev, n, e, r1, r2, r3, r4⟩ | ⟨ev, s, r1, r2, r3, r4⟩
      · subst ev
        have nx := p66 fz a e1 n e m0 r1 r2 r3 (Fr_t (Fr_w (by decide) hf) r4)
        rw [e_X5_childItem_48]
        simp only [↓e_X5_childItem_4, ↓e_X5_childItem_7, ↓e_X5_childItem_12, ↓e_X5_childItem_18, ↓e_X5_childItem_20, ↓e_X5_childItem_24, ↓e_X5_childItem_35, ↓e_X5_childItem_38, ↓e_X5_childItem_45, ↓e_X5_childItem_53, ↓e_X5_childItem_56, ↓e_X5_childItem_63, ↓e_X5_childItem_71, ↓e_X5_childItem_74, ↓e_X5_childItem_81, ↓e_X5_childItem_89, ↓e_X5_childItem_92, ↓e_X5_childItem_99, ↓e_X5_childItem_107, ↓e_X5_childItem_110, ↓e_X5_childItem_117, ↓e_X5_childItem_124, ↓e_X5_childItem_127, ↓e_X5_childItem_131, ↓e_X5_childItem_132, v5 o5_24, g5 o5_24, g6 isS_25.1, Nat.reduceAdd, k, zps_s, i01, zk_i, zk_r, zk_n, ↓reduceIte]
        exact nx
      · subst ev
        have qq := bad fz s r3 r2 (GF_t (GF_w (by decide) (GF_w (by decide) (GF_f hf))) (GF_f r4)) (Or.inr ⟨a, e1, m0, Or.inl r1⟩)
        rw [e_X5_childItem_48]
        simp only [↓e_X5_childItem_4, ↓e_X5_childItem_7, ↓e_X5_childItem_12, ↓e_X5_childItem_18, ↓e_X5_childItem_20, ↓e_X5_childItem_24, ↓e_X5_childItem_35, ↓e_X5_childItem_38, ↓e_X5_childItem_45, ↓e_X5_childItem_53, ↓e_X5_childItem_56, ↓e_X5_childItem_63, ↓e_X5_childItem_71, ↓e_X5_childItem_74, ↓e_X5_childItem_81, ↓e_X5_childItem_89, ↓e_X5_childItem_92, ↓e_X5_childItem_99, ↓e_X5_childItem_107, ↓e_X5_childItem_110, ↓e_X5_childItem_117, ↓e_X5_childItem_124, ↓e_X5_childItem_127, ↓e_X5_childItem_131, ↓e_X5_childItem_132, v5 o5_24, g5 o5_24, g6 isS_25.1, Nat.reduceAdd, k, zps_s, true_or, true_and, zk_i, zk_r, zk_n, ↓reduceIte]
        exact qq
    have p30 : ∀ (f' : Nat → Nat → Int32), i ≤ nl → f' 24 3 = nI i → Fr (set2 f 25 4 (nI (nc + 1))) f' → Ev E (d + 4) zm_X5_childItem 30 [some (.ref 24), some (.int (nI nc))] [] (HP (f', t)) Q := fun f'   he h3' hf => by
      have hx' : RX f' tx nl := Fr_x hf (RX_w (by decide) (by decide) hx)
      obtain ⟨v, z1, ⟨g1', g2'⟩, k⟩ := Hr_use (x_number E d (t := t) ht hx' he h3' (r := 29) (m := 6) rfl (by decide) q6 (by decide) (lo := 1) (hb := 10) (by decide) (by decide) (lv := 1) (hv := 9) (by decide) (by decide))
      obtain ⟨fz, tz⟩ := z1
      dsimp only at g1' g2'
      subst g1'
      rcases g2' with ⟨ev, n, e, r1, r2, r3, r4⟩ | ⟨ev, s, r1, r2, r3, r4⟩
      · subst ev
        have nx := p48 fz  n e  r1 r2 r3 (Fr_t (Fr_w (by decide) hf) r4)
        rw [e_X5_childItem_30]
        simp only [↓e_X5_childItem_4, ↓e_X5_childItem_7, ↓e_X5_childItem_12, ↓e_X5_childItem_18, ↓e_X5_childItem_20, ↓e_X5_childItem_24, ↓e_X5_childItem_35, ↓e_X5_childItem_38, ↓e_X5_childItem_45, ↓e_X5_childItem_53, ↓e_X5_childItem_56, ↓e_X5_childItem_63, ↓e_X5_childItem_71, ↓e_X5_childItem_74, ↓e_X5_childItem_81, ↓e_X5_childItem_89, ↓e_X5_childItem_92, ↓e_X5_childItem_99, ↓e_X5_childItem_107, ↓e_X5_childItem_110, ↓e_X5_childItem_117, ↓e_X5_childItem_124, ↓e_X5_childItem_127, ↓e_X5_childItem_131, ↓e_X5_childItem_132, v5 o5_24, g5 o5_24, g6 isS_25.1, Nat.reduceAdd, k, zps_s, i01, zk_i, zk_r, zk_n, ↓reduceIte]
        exact nx
      · subst ev
        have qq := bad fz s r3 r2 (GF_t (GF_w (by decide) (GF_f hf)) (GF_f r4)) (Or.inl r1)
        rw [e_X5_childItem_30]
        simp only [↓e_X5_childItem_4, ↓e_X5_childItem_7, ↓e_X5_childItem_12, ↓e_X5_childItem_18, ↓e_X5_childItem_20, ↓e_X5_childItem_24, ↓e_X5_childItem_35, ↓e_X5_childItem_38, ↓e_X5_childItem_45, ↓e_X5_childItem_53, ↓e_X5_childItem_56, ↓e_X5_childItem_63, ↓e_X5_childItem_71, ↓e_X5_childItem_74, ↓e_X5_childItem_81, ↓e_X5_childItem_89, ↓e_X5_childItem_92, ↓e_X5_childItem_99, ↓e_X5_childItem_107, ↓e_X5_childItem_110, ↓e_X5_childItem_117, ↓e_X5_childItem_124, ↓e_X5_childItem_127, ↓e_X5_childItem_131, ↓e_X5_childItem_132, v5 o5_24, g5 o5_24, g6 isS_25.1, Nat.reduceAdd, k, zps_s, true_or, true_and, zk_i, zk_r, zk_n, ↓reduceIte]
        exact qq
    obtain ⟨f1, hf1⟩ : ∃ g : Nat → Nat → Int32, g = set2 f 25 4 (nI (nc + 1)) := ⟨_, rfl⟩
    have w := fun K => (p6 isS_25.1).2.1 (f, t) (nI (nc + 1)) K
    dsimp only at w
    rw [← hf1] at w
    have nx := p30 f1 hi (by rw [hf1, set2_a (by decide)]; exact h3) (by rw [hf1]; exact Fr_r _)
    simp only [↓c_X5_childItem, ↓e_X5_childItem_0, ↓e_X5_childItem_4, ↓e_X5_childItem_7, ↓e_X5_childItem_12, ↓e_X5_childItem_18, ↓e_X5_childItem_20, ↓e_X5_childItem_24, ↓e_X5_childItem_35, ↓e_X5_childItem_38, ↓e_X5_childItem_45, ↓e_X5_childItem_53, ↓e_X5_childItem_56, ↓e_X5_childItem_63, ↓e_X5_childItem_71, ↓e_X5_childItem_74, ↓e_X5_childItem_81, ↓e_X5_childItem_89, ↓e_X5_childItem_92, ↓e_X5_childItem_99, ↓e_X5_childItem_107, ↓e_X5_childItem_110, ↓e_X5_childItem_117, ↓e_X5_childItem_124, ↓e_X5_childItem_127, ↓e_X5_childItem_131, ↓e_X5_childItem_132, v5 o5_24, g5 o5_24, g6 isS_25.1, Nat.reduceAdd, hp, pn, show (6 : Int32) = nI 6 from by decide, nI_lt_iff (show nc < 2 ^ 31 by omega) (show 6 < 2 ^ 31 by decide), q6, nI_1, w, zk_i, zk_r, zk_n, ↓reduceIte]
    exact nx
  · have qq : Q (some (.int 0)) (HP (f, t)) := by
      rw [← hQ]
      exact ⟨(f, t), rfl, rfl, Or.inr ⟨rfl, s0, h4, hs0, GF_r f, Or.inl ⟨by omega, rfl⟩⟩⟩
    simp only [↓c_X5_childItem, ↓e_X5_childItem_0, ↓e_X5_childItem_4, ↓e_X5_childItem_7, ↓e_X5_childItem_12, ↓e_X5_childItem_18, ↓e_X5_childItem_20, ↓e_X5_childItem_24, ↓e_X5_childItem_35, ↓e_X5_childItem_38, ↓e_X5_childItem_45, ↓e_X5_childItem_53, ↓e_X5_childItem_56, ↓e_X5_childItem_63, ↓e_X5_childItem_71, ↓e_X5_childItem_74, ↓e_X5_childItem_81, ↓e_X5_childItem_89, ↓e_X5_childItem_92, ↓e_X5_childItem_99, ↓e_X5_childItem_107, ↓e_X5_childItem_110, ↓e_X5_childItem_117, ↓e_X5_childItem_124, ↓e_X5_childItem_127, ↓e_X5_childItem_131, ↓e_X5_childItem_132, v5 o5_24, g5 o5_24, g6 isS_25.1, Nat.reduceAdd, hp, pn, show (6 : Int32) = nI 6 from by decide, nI_lt_iff (show nc < 2 ^ 31 by omega) (show 6 < 2 ^ 31 by decide), q6, true_or, true_and, zk_i, zk_r, zk_n, ↓reduceIte]
    exact qq
end RJ
