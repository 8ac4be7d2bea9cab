/-! FEWEST: both sides -/
theorem dg_surj {n : Nat} {κ : Nat → Nat} : ∀ m, (∀ p, p < m → κ p < n) → ∃ k, k < n ^ m ∧ ∀ p, p < m → dg n m k p = κ p
  | 0, _ => ⟨0, by rw [Nat.pow_zero]; decide, fun p hp => by omega⟩
  | m + 1, h => by
    obtain ⟨k, hk, hd⟩ := dg_surj m (fun p hp => h p (by omega))
    have hc := h m (by omega)
    refine ⟨k * n + κ m, ?_, fun p hp => ?_⟩
    · rw [Nat.pow_succ]
      have : (k + 1) * n ≤ n ^ m * n := Nat.mul_le_mul_right n hk
      rw [Nat.add_mul, Nat.one_mul] at this
      omega
    · by_cases e : p = m
      · subst e
        exact dg_last hc
      · rw [dg_ext hc (by omega)]
        exact hd p (by omega)
/-- n players are enough -/
def En (cm : Nat → Int32) (np n : Nat) : Prop := ∃ l, Pr cm np l ∧ ∀ p, p < np → l p < n
theorem x_fewest (E : zE) (d : Nat) {z : zS} {np nc ns nl ny ch ea : Nat} (h : RT z.1 1 0 np nc ns nl ny ch ea) : Hr E (d + 10) 92 [.ref 0] z (fun r z' => z'.2 = z.2 ∧ (∀ r, r < 38 ∨ 44 < r → z'.1 r = z.1 r) ∧ ∃ v, r = some (.int (nI v)) ∧ v ≤ 6 ∧ En (lcrow z np ns ch) np v ∧ ∀ n, En (lcrow z np ns ch) np n → v ≤ n) := by
  obtain ⟨hc, hm, hn⟩ := rt_F h
  obtain ⟨f, ep, h3, h4, h5, h6, h42, h44, hfr⟩ := x_prep E (d + 3) h (-1) 0
  have pf := x_pf E (d + (7 - np)) (cm := lcrow z np ns ch) hn.1 np 0 0 (fun _ => 0) f z.2 (by omega) (Nat.le_refl _) h3 h42 (fun i hi p hp => by
    rw [h44 i hi, b_0]
    simp) (fun a ha => by omega) (fun p hp => by omega)
  rw [show d + (7 - np) + np + 1 = d + 8 by omega, nI_0] at pf
  obtain ⟨r, z3, ⟨hz3, v, hr, hF⟩, e3⟩ := Hr_use pf
  subst hr
  subst hz3
  unfold Hr
  simp only [↓c_X8_fewest, ↓e_X8_fewest_0, ↓e_X8_fewest_4, ↓e_X8_fewest_8, ↓e_X8_fewest_11, ↓c_X0_fewestPlayers, ↓e_X0_fewestPlayers_0, ↓e_X0_fewestPlayers_7, ↓e_X0_fewestPlayers_13, g8 o8_0, v0 o0_38, Nat.reduceAdd, ep, e3, zps_s, zps_n, zk_i, zk_r, zk_n]
  have h6n := hn.1
  have hv6 := hF.2.1
  refine ⟨(f, z.2), rfl, rfl, fun r hr => hfr r (by omega) (by omega) (by omega), v, rfl, by omega, hF.1, fun n he => ?_⟩
  obtain ⟨l, hl, hln⟩ := he
  exact hF.2.2 l n (fun _ => 0) hl hln (fun i hi => by omega) (fun i hi => by omega) (fun p hp => by omega)
theorem m_fewest (E : zE) (d : Nat) {z z0 : zS} {np nc ns nl ny ch ea : Nat} (h : RT z.1 1 0 np nc ns nl ny ch ea) (h0 : z0.1 130 = z.1 130) : Hr E (d + 4) 167 [.ref 129] z0 (fun r z' => z'.2 = z0.2 ∧ (∀ r, r ≠ 134 → r ≠ 135 → z'.1 r = z0.1 r) ∧ ∃ v, r = some (.int (nI v)) ∧ ((v < 6 ∧ En (lcrow z np ns ch) np v) ∨ v = 6) ∧ ∀ n, n < v → ¬ En (lcrow z np ns ch) np n) := by
  obtain ⟨hc, hm, hn⟩ := rt_F h
  have n1 : np < 2 ^ 31 := by omega
  have lc := m_layClashes E (d + 1) (z := z0) (np := np) (ns := ns) (ch := ch) hn.1 hn.2.2.1 hn.2.2.2.1 (by rw [h0]; exact hm.1) (by rw [h0]; exact hm.2.2.1) (by rw [h0]; exact hm.2.2.2.1)
  obtain ⟨f1, hf1⟩ : ∃ g : Nat → Nat → Int32, g = setR z0.1 134 (itr (fun a g => upd g a (lcrow z0 np ns ch a)) np (z0.1 134)) := ⟨_, rfl⟩
  rw [← hf1] at lc
  have r1 : ∀ r, r ≠ 134 → f1 r = z0.1 r := fun r hr => by rw [hf1, setR_n hr]
  have f134 : ∀ a, a < np → f1 134 a = lcrow z np ns ch a := fun a ha => by
    rw [hf1, setR_s, itr_updv (fun a => lcrow z0 np ns ch a), if_pos ha]
    unfold lcrow
    refine itr_congr np (fun b hb => ?_)
    rw [ccB_c (z' := z) h0]
  have f1_130 : f1 130 = z.1 130 := by rw [r1 130 (by decide), h0]
  unfold Hr
  generalize hQ : (fun (r : Option Value) (h : zH) => ∃ z' : zS, h = HP z' ∧ (z'.2 = z0.2 ∧ (∀ r, r ≠ 134 → r ≠ 135 → z'.1 r = z0.1 r) ∧ ∃ v, r = some (.int (nI v)) ∧ ((v < 6 ∧ En (lcrow z np ns ch) np v) ∨ v = 6) ∧ ∀ n, n < v → ¬ En (lcrow z np ns ch) np n)) = Q
  have qof : ∀ (f : Nat → Nat → Int32) v, (∀ r, r ≠ 135 → f r = f1 r) → ((v < 6 ∧ En (lcrow z np ns ch) np v) ∨ v = 6) → (∀ n, n < v → ¬ En (lcrow z np ns ch) np n) → Q (some (.int (nI v))) (HP (f, z0.2)) := fun f v hf h1 h2 => by
    rw [← hQ]
    exact ⟨(f, z0.2), rfl, rfl, fun r a b => by show f r = z0.1 r; rw [hf r b, r1 r a], v, rfl, h1, h2⟩
  have outer : ∀ m n (f : Nat → Nat → Int32) (x : Option Value), n + m = 6 → (∀ r, r ≠ 135 → f r = f1 r) → (∀ n', n' < n → ¬ En (lcrow z np ns ch) np n') → Ev E (d + 4) zm_X9_fewest 6 [some (.ref 129), some (.int (nI n)), x] [] (HP (f, z0.2)) Q := by
    intro m
    induction m with
    | zero =>
      intro n f x hnm hf hno
      have en : n = 6 := by omega
      subst en
      have e : (nI 6 < (6 : Int32)) = False := by decide
      have q := qof f 6 hf (Or.inr rfl) hno
      rw [show nI 6 = 6 from rfl] at q
      rw [e_X9_fewest_6]
      simp only [↓e_X9_fewest_4, ↓e_X9_fewest_12, ↓e_X9_fewest_20, ↓e_X9_fewest_23, ↓e_X9_fewest_29, ↓e_X9_fewest_32, ↓e_X9_fewest_34, ↓e_X9_fewest_40, ↓e_X9_fewest_46, e, zk_i, zk_r, zk_n, ↓reduceIte]
      exact q
    | succ m ihm =>
      intro n f x hnm hf hno
      have n6 : n < 6 := by omega
      have p66 := pow66 (show n ≤ 6 by omega) hn.1
      have inner : ∀ j k (f : Nat → Nat → Int32), k + j = n ^ np → (∀ r, r ≠ 135 → f r = f1 r) → (∀ k', k' < k → ¬ Pr (lcrow z np ns ch) np (dg n np k')) → Ev E (d + 4) zm_X9_fewest 14 [some (.ref 129), some (.int (nI n)), some (.int (nI k))] [] (HP (f, z0.2)) Q := by
        intro j
        induction j with
        | zero =>
          intro k f hk hf hnk
          have fr130 : f 130 = z.1 130 := by rw [hf 130 (by decide), f1_130]
          have mr := m_rows E (d + 3) (nI n) n1 (z := (f, z0.2)) (by show f 130 104 = nI np; rw [fr130]; exact hm.1)
          rw [itr_rows] at mr
          have e : (nI k < nI (n ^ np)) = False := by
            rw [nI_lt_iff (by omega) (by omega)]
            exact eq_false (by omega)
          have nx := ihm (n + 1) f (some (.int (nI k))) (by omega) hf (fun n' hn' => by
            by_cases e : n' = n
            · subst e
              rintro ⟨l, hl, hln⟩
              obtain ⟨k', hk', hd⟩ := dg_surj np hln
              exact hnk k' (by omega) (fun a ha b hb e => hl a ha b hb (by rw [← hd a ha, ← hd b (by omega)]; exact e))
            · exact hno n' (by omega))
          rw [e_X9_fewest_14]
          simp only [↓e_X9_fewest_4, ↓e_X9_fewest_12, ↓e_X9_fewest_20, ↓e_X9_fewest_23, ↓e_X9_fewest_29, ↓e_X9_fewest_32, ↓e_X9_fewest_34, ↓e_X9_fewest_40, ↓e_X9_fewest_46, v9 o9_129, mr, e, nI_1, zps_s, zk_i, zk_r, zk_n, ↓reduceIte]
          exact nx
        | succ j ihj =>
          intro k f hk hf hnk
          have hlt : k < n ^ np := by omega
          have hn0 : 0 < n ∨ np = 0 := by
            rcases Nat.eq_zero_or_pos n with e | e
            · right
              rcases Nat.eq_zero_or_pos np with e2 | e2
              · exact e2
              · rw [e, Nat.zero_pow e2] at hlt
                omega
            · exact Or.inl e
          have fr130 : f 130 = z.1 130 := by rw [hf 130 (by decide), f1_130]
          have mr := m_rows E (d + 3) (nI n) n1 (z := (f, z0.2)) (by show f 130 104 = nI np; rw [fr130]; exact hm.1)
          rw [itr_rows] at mr
          have e : (nI k < nI (n ^ np)) = True := by
            rw [nI_lt_iff (by omega) (by omega)]
            exact eq_true hlt
          have ml := m_lays E (d + 3) (k := k) (m := n) hn.1 (by omega) (by omega) hn0 (z := (f, z0.2)) (by show f 130 104 = nI np; rw [fr130]; exact hm.1)
          obtain ⟨f2, hf2⟩ : ∃ g : Nat → Nat → Int32, g = setR f 135 (itr (lyG n np) np (k, f 135)).2 := ⟨_, rfl⟩
          rw [show ((f, z0.2) : zS).1 = f from rfl, show ((f, z0.2) : zS).2 = z0.2 from rfl, ← hf2] at ml
          have hf2' : ∀ r, r ≠ 135 → f2 r = f1 r := fun r hr => by rw [hf2, setR_n hr, hf r hr]
          have hly : lyB (f, z0.2) (itr (lyG n np) np (k, f 135)).2 np = true ↔ Pr (lcrow z np ns ch) np (dg n np k) := by
            rw [ly_t hn0 (by omega) hn.1]
            have e134 : ∀ a, a < np → f 134 a = lcrow z np ns ch a := fun a ha => by rw [hf 134 (by decide)]; exact f134 a ha
            exact ⟨fun q a ha b hb e => by rw [← e134 a ha]; exact q a ha b hb e, fun q a ha b hb e => by show bt (f 134 a) b = false; rw [e134 a ha]; exact q a ha b hb e⟩
          cases hb : lyB (f, z0.2) (itr (lyG n np) np (k, f 135)).2 np with
          | false =>
            have nx := ihj (k + 1) f2 (by omega) hf2' (fun k' hk' => by
              by_cases e : k' = k
              · subst e
                intro q
                have := hly.mpr q
                rw [hb] at this
                cases this
              · exact hnk k' (by omega))
            rw [e_X9_fewest_14]
            simp only [↓e_X9_fewest_4, ↓e_X9_fewest_12, ↓e_X9_fewest_20, ↓e_X9_fewest_23, ↓e_X9_fewest_29, ↓e_X9_fewest_32, ↓e_X9_fewest_34, ↓e_X9_fewest_40, ↓e_X9_fewest_46, v9 o9_129, mr, e, ml, hb, nI_1, zps_s, bI_0, zk_i, zk_r, zk_n, ↓reduceIte]
            exact nx
          | true =>
            have q := qof f2 n hf2' (Or.inl ⟨n6, dg n np k, hly.mp hb, fun p hp => dg_lt (by omega) np k p⟩) hno
            rw [e_X9_fewest_14]
            simp only [↓e_X9_fewest_4, ↓e_X9_fewest_12, ↓e_X9_fewest_20, ↓e_X9_fewest_23, ↓e_X9_fewest_29, ↓e_X9_fewest_32, ↓e_X9_fewest_34, ↓e_X9_fewest_40, ↓e_X9_fewest_46, v9 o9_129, mr, e, ml, hb, zps_s, bI_0, zk_i, zk_r, zk_n, reduceCtorEq, ↓reduceIte]
            exact q
      have st := inner (n ^ np) 0 f (by omega) hf (fun k' hk' => by omega)
      rw [nI_0] at st
      have e : (nI n < (6 : Int32)) = True := eq_true (nI_lt (b := 6) n6 (by decide))
      rw [e_X9_fewest_6]
      simp only [↓e_X9_fewest_4, ↓e_X9_fewest_12, ↓e_X9_fewest_20, ↓e_X9_fewest_23, ↓e_X9_fewest_29, ↓e_X9_fewest_32, ↓e_X9_fewest_34, ↓e_X9_fewest_40, ↓e_X9_fewest_46, e, zk_i, zk_r, zk_n, ↓reduceIte]
      exact st
  have start := outer 6 0 f1 none (by omega) (fun _ _ => rfl) (fun n' hn' => by omega)
  rw [nI_0] at start
  simp only [↓c_X9_fewest, ↓e_X9_fewest_0, ↓e_X9_fewest_4, ↓e_X9_fewest_12, ↓e_X9_fewest_20, ↓e_X9_fewest_23, ↓e_X9_fewest_29, ↓e_X9_fewest_32, ↓e_X9_fewest_34, ↓e_X9_fewest_40, ↓e_X9_fewest_46, v9 o9_129, lc, zps_n, zk_i, zk_r, zk_n]
  exact start
theorem op_fewest (E : zE) (d : Nat) {z : zS} (hI : Inv z) : OpI E (d + 10) 92 167 [] z := by
  obtain ⟨⟨np, nc, ns, nl, ny, ch, ea, h⟩, -⟩ := id hI
  obtain ⟨r, z1, ⟨ht, hf, v, hr, v6, hE, hM⟩, e1⟩ := Hr_use (x_fewest E d h)
  subst hr
  obtain ⟨r2, z2, ⟨ht2, hf2, w, hr2, hW, hN⟩, e2⟩ := Hr_use (m_fewest E (d + 6) (z0 := z1) h (hf 130 (by omega)))
  subst hr2
  have e : w = v := by
    rcases hW with ⟨w6, hw⟩ | hw
    · have a := hM w hw
      rcases Nat.lt_or_ge v w with q | q
      · exact absurd hE (hN v q)
      · omega
    · rcases Nat.lt_or_ge v w with q | q
      · exact absurd hE (hN v q)
      · omega
  subst e
  exact ⟨nI w, z1, z2, e1, e2, Inv_keep (z := z) (fun r hr => by rw [hf2 r (by omega) (by omega), hf r (by omega)]) (by rw [ht2, ht]) (by rw [ht2, ht]) (by rw [ht2, ht]) hI⟩
