/-! the reference's findBest -/
theorem m_findBest (E : zE) (d : Nat) {z z0 : zS} {np nc ns nl ny ch ea : Nat} (h : RT z.1 1 0 np nc ns nl ny ch ea) (h0 : z0.1 130 = z.1 130) : Hr E (d + 4) 165 [.ref 129] z0 (fun r z' => r = none ∧ z'.2 = z0.2 ∧ (∀ r, r ≠ 129 → r ≠ 134 → r ≠ 135 → r ≠ 136 → z'.1 r = z0.1 r) ∧ ∃ o, Pk (Vd nc np (lcrow z np ns ch) (-1) ea) (scd nc np (fitI z)) (nc ^ np) o ∧ SM z'.1 nc np (fitI z) (fun _ => 0) o) := by
  obtain ⟨hc, hm, hn⟩ := rt_F h
  have n1 : np < 2 ^ 31 := by omega
  have n2 : nc < 2 ^ 31 := by omega
  have p66 := pow66 hn.2.1 hn.1
  have hr := hm
  rw [← h0] at hr
  obtain ⟨f0, hf0⟩ : ∃ g : Nat → Nat → Int32, g = set2 z0.1 129 14 0 := ⟨_, rfl⟩
  have r0 : ∀ r, r ≠ 129 → f0 r = z0.1 r := fun r hr => by rw [hf0, set2_a hr]
  have f130 : f0 130 = z.1 130 := by rw [r0 130 (by decide), h0]
  have lc := m_layClashes E (d + 1) (z := (f0, z0.2)) (np := np) (ns := ns) (ch := ch) hn.1 hn.2.2.1 hn.2.2.2.1 (by show f0 130 104 = _; rw [f130]; exact hm.1) (by show f0 130 106 = _; rw [f130]; exact hm.2.2.1) (by show f0 130 107 = _; rw [f130]; exact hm.2.2.2.1)
  obtain ⟨f1, hf1⟩ : ∃ g : Nat → Nat → Int32, g = setR f0 134 (itr (fun a g => upd g a (lcrow (f0, z0.2) np ns ch a)) np (f0 134)) := ⟨_, rfl⟩
  rw [show ((f0, z0.2) : zS).1 = f0 from rfl, show ((f0, z0.2) : zS).2 = z0.2 from rfl, ← hf1] at lc
  have r1 : ∀ r, r ≠ 134 → f1 r = f0 r := fun r hr => by rw [hf1, setR_n hr]
  have f134 : ∀ a, a < np → f1 134 a = lcrow z np ns ch a := fun a ha => by
    rw [hf1, setR_s, itr_updv (fun a => lcrow (f0, z0.2) np ns ch a), if_pos ha]
    unfold lcrow
    refine itr_congr np (fun b hb => ?_)
    rw [ccB_c (z' := z) f130]
  have f1_130 : f1 130 = z.1 130 := by rw [r1 130 (by decide), f130]
  unfold Hr
  generalize hQ : (fun (r : Option Value) (h : zH) => ∃ z', h = HP z' ∧ (r = none ∧ z'.2 = z0.2 ∧ (∀ r, r ≠ 129 → r ≠ 134 → r ≠ 135 → r ≠ 136 → z'.1 r = z0.1 r) ∧ ∃ o, Pk (Vd nc np (lcrow z np ns ch) (-1) ea) (scd nc np (fitI z)) (nc ^ np) o ∧ SM z'.1 nc np (fitI z) (fun _ => 0) o)) = Q
  have loop : ∀ j k (f : Nat → Nat → Int32) (x : Option Value), k + j = nc ^ np → (∀ r, r ≠ 129 → r ≠ 135 → r ≠ 136 → f r = f1 r) → (∃ o, Pk (Vd nc np (lcrow z np ns ch) (-1) ea) (scd nc np (fitI z)) k o ∧ SM f nc np (fitI z) (fun _ => 0) o) → Ev E (d + 4) zm_X9_findBest 19 [some (.ref 129), some (.int (nI nc)), some (.int (nI k)), x] [] (HP (f, z0.2)) Q := by
    intro j
    induction j with
    | zero =>
      intro k f x hk hf hP
      have fr130 : f 130 = z.1 130 := by rw [hf 130 (by decide) (by decide) (by decide), f1_130]
      have mr := m_rows E (d + 3) (nI nc) n1 (z := (f, z0.2)) (by show f 130 104 = nI np; rw [fr130]; exact hm.1)
      rw [itr_rows] at mr
      have q : Q none (HP (f, z0.2)) := by
        rw [← hQ]
        obtain ⟨o, p1, p2⟩ := hP
        rw [show k = nc ^ np by omega] at p1
        exact ⟨(f, z0.2), rfl, rfl, rfl, fun r h1 h2 h3 h4 => by show f r = z0.1 r; rw [hf r h1 h3 h4, r1 r h2, r0 r h1], o, p1, p2⟩
      have e : (nI k < nI (nc ^ np)) = False := by
        rw [nI_lt_iff (by omega) (by omega)]
        exact eq_false (by omega)
      rw [e_X9_findBest_19]
      simp only [↓e_X9_findBest_4, ↓e_X9_findBest_7, ↓e_X9_findBest_13, ↓e_X9_findBest_17, ↓e_X9_findBest_25, ↓e_X9_findBest_28, ↓e_X9_findBest_34, ↓e_X9_findBest_37, ↓e_X9_findBest_41, ↓e_X9_findBest_44, ↓e_X9_findBest_47, ↓e_X9_findBest_51, ↓e_X9_findBest_59, ↓e_X9_findBest_63, ↓e_X9_findBest_68, ↓e_X9_findBest_71, ↓e_X9_findBest_76, ↓e_X9_findBest_79, ↓e_X9_findBest_85, ↓e_X9_findBest_91, v9 o9_129, mr, e, zps_s, zk_i, zk_r, zk_n, ↓reduceIte]
      exact q
    | succ j ih =>
      intro k f x hk hf hP
      obtain ⟨o, p1, p2⟩ := hP
      have hlt : k < nc ^ np := by omega
      have hn0 : 0 < nc ∨ np = 0 := by
        rcases Nat.eq_zero_or_pos nc with e | e
        · right
          rcases Nat.eq_zero_or_pos np with e2 | e2
          · exact e2
          · rw [e, Nat.zero_pow e2] at hlt
            omega
        · exact Or.inl e
      have fr130 : f 130 = z.1 130 := by rw [hf 130 (by decide) (by decide) (by decide), f1_130]
      have mr := m_rows E (d + 3) (nI nc) n1 (z := (f, z0.2)) (by show f 130 104 = nI np; rw [fr130]; exact hm.1)
      rw [itr_rows] at mr
      have e : (nI k < nI (nc ^ np)) = True := by
        rw [nI_lt_iff (by omega) (by omega)]
        exact eq_true hlt
      have ml := m_lays E (d + 3) (k := k) (m := nc) hn.1 (by omega) n2 hn0 (z := (f, z0.2)) (by show f 130 104 = nI np; rw [fr130]; exact hm.1)
      obtain ⟨f2, hf2⟩ : ∃ g : Nat → Nat → Int32, g = setR f 135 (itr (lyG nc np) np (k, f 135)).2 := ⟨_, rfl⟩
      rw [show ((f, z0.2) : zS).1 = f from rfl, show ((f, z0.2) : zS).2 = z0.2 from rfl, ← hf2] at ml
      have r2 : ∀ r, r ≠ 135 → f2 r = f r := fun r hr => by rw [hf2, setR_n hr]
      have f2_135 : ∀ p, p < np → f2 135 p = nI (dg nc np k p) ∧ dg nc np k p < nc := fun p hp => by
        rw [hf2, setR_s, ly_at nc np k (f 135) hp]
        exact ⟨rfl, dg_lt (by omega) np k p⟩
      have f2_130 : f2 130 = z.1 130 := by rw [r2 130 (by decide), fr130]
      have p2' : SM f2 nc np (fitI z) (fun _ => 0) o := SM_c (r2 129 (by decide)) (r2 136 (by decide)) p2
      have hf2' : ∀ r, r ≠ 129 → r ≠ 135 → r ≠ 136 → f2 r = f1 r := fun r h1 h2 h3 => by rw [r2 r h2, hf r h1 h2 h3]
      have hly : lyB (f, z0.2) (itr (lyG nc np) np (k, f 135)).2 np = true ↔ ∀ a, a < np → ∀ b, b < a → dg nc np k a = dg nc np k b → bt (lcrow z np ns ch a) b = false := by
        rw [ly_t hn0 hn.2.1 hn.1]
        have e134 : ∀ a, a < np → f 134 a = lcrow z np ns ch a := fun a ha => by rw [hf 134 (by decide) (by decide) (by decide)]; exact f134 a ha
        exact ⟨fun q a ha b hb e => by rw [← e134 a ha]; exact q a ha b hb e, fun q a ha b hb e => by show bt (f 134 a) b = false; rw [e134 a ha]; exact q a ha b hb e⟩
      -- the row is passed over
      have skip : (¬ Vd nc np (lcrow z np ns ch) (-1) ea k ∨ ∃ i, o = some i ∧ scd nc np (fitI z) k ≤ scd nc np (fitI z) i) → ∀ x, Ev E (d + 4) zm_X9_findBest 19 [some (.ref 129), some (.int (nI nc)), some (.int (nI (k + 1))), x] [] (HP (f2, z0.2)) Q := fun q x => ih (k + 1) f2 x (by omega) hf2' ⟨o, Pk_skip p1 (by omega) (fun k' k1 k2 hv => by
        have e : k' = k := by omega
        subst e
        rcases q with q | q
        · exact absurd hv q
        · exact q), p2'⟩
      cases hb : lyB (f, z0.2) (itr (lyG nc np) np (k, f 135)).2 np with
      | false =>
        have q : ¬ Vd nc np (lcrow z np ns ch) (-1) ea k := fun hv => by
          have := hly.mpr hv.1
          rw [hb] at this
          cases this
        rw [e_X9_findBest_19]
        simp only [↓e_X9_findBest_4, ↓e_X9_findBest_7, ↓e_X9_findBest_13, ↓e_X9_findBest_17, ↓e_X9_findBest_25, ↓e_X9_findBest_28, ↓e_X9_findBest_34, ↓e_X9_findBest_37, ↓e_X9_findBest_41, ↓e_X9_findBest_44, ↓e_X9_findBest_47, ↓e_X9_findBest_51, ↓e_X9_findBest_59, ↓e_X9_findBest_63, ↓e_X9_findBest_68, ↓e_X9_findBest_71, ↓e_X9_findBest_76, ↓e_X9_findBest_79, ↓e_X9_findBest_85, ↓e_X9_findBest_91, v9 o9_129, mr, e, ml, hb, zps_s, bI_0, zk_i, zk_r, zk_n, nI_1, ↓reduceIte]
        exact skip (Or.inl q) _
      | true =>
        have hV1 := hly.mp hb
        have hV2 : ∀ a, a < np → nI (dg nc np k a) ≠ -1 := fun a ha => by
          have := (f2_135 a ha).2
          exact fun q => (nIn1 (show dg nc np k a < 6 by omega)).mp q
        have e104 : f2 130 104 = nI np := by rw [f2_130]; exact hm.1
        have e108 : f2 130 108 = nI ea := by rw [f2_130]; exact hm.2.2.2.2.1
        have mp := m_players E (d + 3) hn.1 (z := (f2, z0.2)) e104
        have rf := m_rowFit E (d + 1) hn.1 (z := (f2, z0.2)) e104 (g := dg nc np k) (fun i hi => ⟨(f2_135 i hi).1, by have := (f2_135 i hi).2; omega⟩)
        have efit : itr (fun i b => b + fitM (f2, z0.2) (dg nc np k i) i) np 0 = iI (scd nc np (fitI z) k) := by
          rw [itr_congr (g := fun i b => b + fitM z (dg nc np k i) i) np (fun i hi => by rw [fitM_c (z := z) f2_130]), rf_sum h (fun p hp => (f2_135 p hp).2) np (Nat.le_refl _)]
          rfl
        rw [efit] at rf
        -- it may stand
        have good : Vd nc np (lcrow z np ns ch) (-1) ea k → Ev E (d + 4) zm_X9_findBest 59 [some (.ref 129), some (.int (nI nc)), some (.int (nI k)), x] [] (HP (f2, z0.2)) Q := fun hV => by
          have tk := m_takes E (d + 3) (iI (scd nc np (fitI z) k)) 0 hn.1 (z := (f2, z0.2)) e104
          have take : (∀ i, o = some i → scd nc np (fitI z) i < scd nc np (fitI z) k) → ∀ x, Ev E (d + 4) zm_X9_findBest 19 [some (.ref 129), some (.int (nI nc)), some (.int (nI (k + 1))), x] [] (HP (setR (setR f2 129 (upd (upd (upd (f2 129) 14 1) 12 (iI (scd nc np (fitI z) k))) 13 0)) 136 (itr (fun i g => upd g i (f2 135 i)) np (f2 136)), z0.2)) Q := fun q x => ih (k + 1) _ x (by omega) (fun r h1 h2 h3 => by rw [setR_n h3, setR_n h1]; exact hf2' r h1 h2 h3) ⟨some k, Pk_take p1 hV q, SM_take rfl rfl (fun p hp => (f2_135 p hp).1)⟩
          have sb : ∀ j, 0 ≤ scd nc np (fitI z) j → True := fun _ _ => trivial
          cases o with
          | none =>
            have e14 : f2 129 14 = 0 := p2'
            rw [e_X9_findBest_59]
            simp only [↓e_X9_findBest_4, ↓e_X9_findBest_7, ↓e_X9_findBest_13, ↓e_X9_findBest_17, ↓e_X9_findBest_25, ↓e_X9_findBest_28, ↓e_X9_findBest_34, ↓e_X9_findBest_37, ↓e_X9_findBest_41, ↓e_X9_findBest_44, ↓e_X9_findBest_47, ↓e_X9_findBest_51, ↓e_X9_findBest_59, ↓e_X9_findBest_63, ↓e_X9_findBest_68, ↓e_X9_findBest_71, ↓e_X9_findBest_76, ↓e_X9_findBest_79, ↓e_X9_findBest_85, ↓e_X9_findBest_91, g9 o9_129, v9 o9_129, Nat.reduceAdd, rf, e14, tk, zps_s, zps_n, zk_i, zk_r, zk_n, nI_1, ↓reduceIte]
            exact take (fun i q => by cases q) _
          | some i =>
            have e14 : f2 129 14 = 1 := p2'.1
            have e12 : f2 129 12 = iI (scd nc np (fitI z) i) := p2'.2.1
            have hnc : 0 < nc ∨ np = 0 := hn0
            have bd : ∀ j, -6000 ≤ scd nc np (fitI z) j ∧ scd nc np (fitI z) j ≤ 6000 := fun j => by
              have := sm_bd (f := fun p => fitI z p (dg nc np j p)) (a := -1000) (b := 1000) (by decide) (by decide) np (fun p hp => by
                have := (q_fitI h (dg_lt (show 0 < nc by omega) np j p) hp).2.2
                omega)
              unfold scd
              omega
            have el : (iI (scd nc np (fitI z) i) < iI (scd nc np (fitI z) k)) = (scd nc np (fitI z) i < scd nc np (fitI z) k) := iI_lt (by have := bd i; omega) (by have := bd i; omega) (by have := bd k; omega) (by have := bd k; omega)
            by_cases q : scd nc np (fitI z) i < scd nc np (fitI z) k
            · rw [e_X9_findBest_59]
              simp only [↓e_X9_findBest_4, ↓e_X9_findBest_7, ↓e_X9_findBest_13, ↓e_X9_findBest_17, ↓e_X9_findBest_25, ↓e_X9_findBest_28, ↓e_X9_findBest_34, ↓e_X9_findBest_37, ↓e_X9_findBest_41, ↓e_X9_findBest_44, ↓e_X9_findBest_47, ↓e_X9_findBest_51, ↓e_X9_findBest_59, ↓e_X9_findBest_63, ↓e_X9_findBest_68, ↓e_X9_findBest_71, ↓e_X9_findBest_76, ↓e_X9_findBest_79, ↓e_X9_findBest_85, ↓e_X9_findBest_91, g9 o9_129, v9 o9_129, Nat.reduceAdd, rf, e14, e12, el, q, i01, tk, zps_s, zps_n, zk_i, zk_r, zk_n, nI_1, ↓reduceIte]
              exact take (fun i' q' => by cases q'; exact q) _
            · rw [e_X9_findBest_59]
              simp only [↓e_X9_findBest_4, ↓e_X9_findBest_7, ↓e_X9_findBest_13, ↓e_X9_findBest_17, ↓e_X9_findBest_25, ↓e_X9_findBest_28, ↓e_X9_findBest_34, ↓e_X9_findBest_37, ↓e_X9_findBest_41, ↓e_X9_findBest_44, ↓e_X9_findBest_47, ↓e_X9_findBest_51, ↓e_X9_findBest_59, ↓e_X9_findBest_63, ↓e_X9_findBest_68, ↓e_X9_findBest_71, ↓e_X9_findBest_76, ↓e_X9_findBest_79, ↓e_X9_findBest_85, ↓e_X9_findBest_91, g9 o9_129, v9 o9_129, Nat.reduceAdd, rf, e14, e12, el, q, i01, zps_s, zps_n, zk_i, zk_r, zk_n, nI_1, ↓reduceIte]
              exact skip (Or.inr ⟨i, rfl, by omega⟩) _
        by_cases he : ea = 0
        · have e0 : f2 130 108 = 0 := by rw [e108, he]; rfl
          rw [e_X9_findBest_19]
          simp only [↓e_X9_findBest_4, ↓e_X9_findBest_7, ↓e_X9_findBest_13, ↓e_X9_findBest_17, ↓e_X9_findBest_25, ↓e_X9_findBest_28, ↓e_X9_findBest_34, ↓e_X9_findBest_37, ↓e_X9_findBest_41, ↓e_X9_findBest_44, ↓e_X9_findBest_47, ↓e_X9_findBest_51, ↓e_X9_findBest_63, ↓e_X9_findBest_68, ↓e_X9_findBest_71, ↓e_X9_findBest_76, ↓e_X9_findBest_79, ↓e_X9_findBest_85, ↓e_X9_findBest_91, g9 o9_129, v9 o9_129, Nat.reduceAdd, stL, mr, e, ml, hb, e0, zps_s, bI_0, zk_i, zk_r, zk_n, reduceCtorEq, ↓reduceIte]
          exact good ⟨hV1, hV2, fun q => by omega⟩
        · have e1 : f2 130 108 = 1 := by rw [e108, show ea = 1 by omega]; rfl
          have pf := pl_full (f := f2) (np := np) (n := nc) (D := dg nc np k) hn.2.1 f2_135
          by_cases hall : ∀ c, c < nc → ∃ p, p < np ∧ dg nc np k p = c
          · have pf' : (itr (fun i b => b ||| (1 <<< (f2 135 i &&& 31))) np 0 = (1 <<< (nI nc &&& 31)) - 1) = True := pf.trans (eq_true hall)
            rw [e_X9_findBest_19]
            simp only [↓e_X9_findBest_4, ↓e_X9_findBest_7, ↓e_X9_findBest_13, ↓e_X9_findBest_17, ↓e_X9_findBest_25, ↓e_X9_findBest_28, ↓e_X9_findBest_34, ↓e_X9_findBest_37, ↓e_X9_findBest_41, ↓e_X9_findBest_44, ↓e_X9_findBest_47, ↓e_X9_findBest_51, ↓e_X9_findBest_63, ↓e_X9_findBest_68, ↓e_X9_findBest_71, ↓e_X9_findBest_76, ↓e_X9_findBest_79, ↓e_X9_findBest_85, ↓e_X9_findBest_91, g9 o9_129, v9 o9_129, Nat.reduceAdd, stL, mr, e, ml, hb, e1, i01, mp, pf', zps_s, bI_0, zk_i, zk_r, zk_n, reduceCtorEq, ↓reduceIte]
            exact good ⟨hV1, hV2, fun _ => hall⟩
          · have pf' : (itr (fun i b => b ||| (1 <<< (f2 135 i &&& 31))) np 0 = (1 <<< (nI nc &&& 31)) - 1) = False := pf.trans (eq_false hall)
            rw [e_X9_findBest_19]
            simp only [↓e_X9_findBest_4, ↓e_X9_findBest_7, ↓e_X9_findBest_13, ↓e_X9_findBest_17, ↓e_X9_findBest_25, ↓e_X9_findBest_28, ↓e_X9_findBest_34, ↓e_X9_findBest_37, ↓e_X9_findBest_41, ↓e_X9_findBest_44, ↓e_X9_findBest_47, ↓e_X9_findBest_51, ↓e_X9_findBest_63, ↓e_X9_findBest_68, ↓e_X9_findBest_71, ↓e_X9_findBest_76, ↓e_X9_findBest_79, ↓e_X9_findBest_85, ↓e_X9_findBest_91, g9 o9_129, v9 o9_129, Nat.reduceAdd, stL, mr, e, ml, hb, e1, i01, mp, pf', zps_s, bI_0, zk_i, zk_r, zk_n, nI_1, reduceCtorEq, ↓reduceIte]
            exact skip (Or.inl (fun hv => hall (hv.2.2 (by omega)))) _
  have start := loop (nc ^ np) 0 f1 none (by omega) (fun _ _ _ _ => rfl) ⟨none, Pk_0 _ _, by
    show f1 129 14 = 0
    rw [r1 129 (by decide), hf0, set2_s]⟩
  rw [nI_0] at start
  simp only [↓c_X9_findBest, ↓e_X9_findBest_0, ↓e_X9_findBest_4, ↓e_X9_findBest_7, ↓e_X9_findBest_13, ↓e_X9_findBest_17, ↓e_X9_findBest_25, ↓e_X9_findBest_28, ↓e_X9_findBest_34, ↓e_X9_findBest_37, ↓e_X9_findBest_41, ↓e_X9_findBest_44, ↓e_X9_findBest_47, ↓e_X9_findBest_51, ↓e_X9_findBest_59, ↓e_X9_findBest_63, ↓e_X9_findBest_68, ↓e_X9_findBest_71, ↓e_X9_findBest_76, ↓e_X9_findBest_79, ↓e_X9_findBest_85, ↓e_X9_findBest_91, g9 o9_129, p9 o9_129, v9 o9_129, Nat.reduceAdd, stL, hr.2.1, ← hf0, lc, zps_n, zk_i, zk_r, zk_n]
  exact start
