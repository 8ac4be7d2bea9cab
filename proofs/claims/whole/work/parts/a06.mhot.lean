/-! the reference's hot: its rows -/
theorem hot_sc {z : zS} {np nc ns nl ny ch ea : Nat} (h : RT z.1 1 0 np nc ns nl ny ch ea) {D : Nat → Nat} (hD : ∀ p, p < np → D p < nc) : ∀ n, n ≤ np → sm (fun p => hotI z p (D p)) n = sm (fun p => fitI z p (D p)) n - 1000 * (chN z D n : Int) ∧ 0 ≤ sm (fun p => fitI z p (D p)) n ∧ sm (fun p => fitI z p (D p)) n ≤ 25 * (n : Int) ∧ chN z D n ≤ n
  | 0, _ => by
    refine ⟨by rfl, by simp [sm], by simp [sm], Nat.le_refl _⟩
  | n + 1, hn => by
    obtain ⟨i1, i2, i3, i4⟩ := hot_sc h hD n (by omega)
    have hf := (q_fitI h (hD n (by omega)) (show n < np by omega)).2.2
    have e1 : sm (fun p => hotI z p (D p)) (n + 1) = sm (fun p => hotI z p (D p)) n + hotI z n (D n) := rfl
    have e2 : sm (fun p => fitI z p (D p)) (n + 1) = sm (fun p => fitI z p (D p)) n + fitI z n (D n) := rfl
    have e3 : chN z D (n + 1) = chN z D n + (if (!decide (z.1 130 (18 + n) = nI (D n))) = true then 1 else 0) := rfl
    have e4 : hotI z n (D n) = fitI z n (D n) - (if z.1 130 (18 + n) = nI (D n) then 0 else 1000) := rfl
    by_cases q : z.1 130 (18 + n) = nI (D n)
    · rw [if_pos q] at e4
      rw [decide_eq_true q] at e3
      have e3' : chN z D (n + 1) = chN z D n := e3
      rw [e1, e2, e3', e4]
      omega
    · rw [if_neg q] at e4
      rw [decide_eq_false q] at e3
      have e3' : chN z D (n + 1) = chN z D n + 1 := e3
      rw [e1, e2, e3', e4]
      omega
theorem m_hotL (E : zE) (d : Nat) {z : zS} {np nc ns nl ny ch ea : Nat} (h : RT z.1 1 0 np nc ns nl ny ch ea) {c0 : Nat} (hc0 : c0 < nc) {f1 : Nat → Nat → Int32} {t : (Nat → Nat → Int64) × Nat} (f1_130 : f1 130 = z.1 130) (f134 : ∀ a, a < np → f1 134 a = lcrow z np ns ch a) (pt : Int32) (Q : Option Value → zH → Prop) (hQ : ∀ (f : Nat → Nat → Int32) (x y : Option Value), (∀ r, r ≠ 129 → r ≠ 135 → r ≠ 136 → f r = f1 r) → (∃ o, Pk (Vd nc np (lcrow z np ns ch) (nI c0) 0) (scd nc np (hotI z)) (nc ^ np) o ∧ SM f nc np (fitI z) (fun j => chN z (dg nc np j) np) o) → Ev E (d + 4) zm_X9_hot 191 [some (.ref 129), some (.int (nI c0)), some (.int pt), some (.int (nI nc)), some (.int (nI (nc ^ np))), x, y] [] (HP (f, t)) Q) : ∀ j k (f : Nat → Nat → Int32) (x y : Option Value), k + j = nc ^ np → (∀ r, r ≠ 129 → r ≠ 135 → r ≠ 136 → f r = f1 r) → (∃ o, Pk (Vd nc np (lcrow z np ns ch) (nI c0) 0) (scd nc np (hotI z)) k o ∧ SM f nc np (fitI z) (fun j => chN z (dg nc np j) np) o) → Ev E (d + 4) zm_X9_hot 49 [some (.ref 129), some (.int (nI c0)), some (.int pt), some (.int (nI nc)), some (.int (nI k)), x, y] [] (HP (f, t)) Q := by
  obtain ⟨hc, hm, hn⟩ := rt_F h
  have n1 : np < 2 ^ 31 := by omega
  have n2 : nc < 2 ^ 31 := by omega
  have p66 := pow66 hn.2.1 hn.1
  have hnc : 0 < nc := by omega
  intro j
  induction j with
  | zero =>
    intro k f x y hk hf hP
    have fr130 : f 130 = z.1 130 := by rw [hf 130 (by decide) (by decide) (by decide), f1_130]
    have mr := m_rows E (d + 3) (nI nc) n1 (z := (f, t)) (by show f 130 104 = nI np; rw [fr130]; exact hm.1)
    rw [itr_rows] at mr
    have ek : k = nc ^ np := by omega
    subst ek
    have e : (nI (nc ^ np) < nI (nc ^ np)) = False := by
      rw [nI_lt_iff (by omega) (by omega)]
      exact eq_false (by omega)
    rw [e_X9_hot_49]
    simp only [↓e_X9_hot_5, ↓e_X9_hot_8, ↓e_X9_hot_13, ↓e_X9_hot_18, ↓e_X9_hot_21, ↓e_X9_hot_28, ↓e_X9_hot_29, ↓e_X9_hot_33, ↓e_X9_hot_36, ↓e_X9_hot_42, ↓e_X9_hot_46, ↓e_X9_hot_56, ↓e_X9_hot_59, ↓e_X9_hot_66, ↓e_X9_hot_69, ↓e_X9_hot_73, ↓e_X9_hot_80, ↓e_X9_hot_92, ↓e_X9_hot_95, ↓e_X9_hot_98, ↓e_X9_hot_104, ↓e_X9_hot_107, ↓e_X9_hot_111, ↓e_X9_hot_117, ↓e_X9_hot_120, ↓e_X9_hot_124, ↓e_X9_hot_125, ↓e_X9_hot_128, ↓e_X9_hot_137, ↓e_X9_hot_141, ↓e_X9_hot_147, ↓e_X9_hot_150, ↓e_X9_hot_156, ↓e_X9_hot_159, ↓e_X9_hot_165, ↓e_X9_hot_168, ↓e_X9_hot_174, ↓e_X9_hot_177, ↓e_X9_hot_185, ↓e_X9_hot_195, ↓e_X9_hot_198, ↓e_X9_hot_205, ↓e_X9_hot_208, ↓e_X9_hot_213, ↓e_X9_hot_217, ↓e_X9_hot_220, ↓e_X9_hot_224, ↓e_X9_hot_226, v9 o9_129, mr, e, zps_s, zk_i, zk_r, zk_n, ↓reduceIte]
    exact hQ f x y hf hP
  | succ j ih =>
    intro k f x y hk hf hP
    obtain ⟨o, p1, p2⟩ := hP
    have hlt : k < nc ^ np := by omega
    have fr130 : f 130 = z.1 130 := by rw [hf 130 (by decide) (by decide) (by decide), f1_130]
    have mr := m_rows E (d + 3) (nI nc) n1 (z := (f, t)) (by show f 130 104 = nI np; rw [fr130]; exact hm.1)
    rw [itr_rows] at mr
    have e : (nI k < nI (nc ^ np)) = True := by
      rw [nI_lt_iff (by omega) (by omega)]
      exact eq_true hlt
    have ml := m_lays E (d + 3) (k := k) (m := nc) hn.1 (by omega) n2 (Or.inl hnc) (z := (f, t)) (by show f 130 104 = nI np; rw [fr130]; exact hm.1)
    obtain ⟨f2, hf2⟩ : ∃ g : Nat → Nat → Int32, g = setR f 135 (itr (lyG nc np) np (k, f 135)).2 := ⟨_, rfl⟩
    rw [show ((f, t) : zS).1 = f from rfl, show ((f, t) : zS).2 = t from rfl, ← hf2] at ml
    have r2 : ∀ r, r ≠ 135 → f2 r = f r := fun r hr => by rw [hf2, setR_n hr]
    have f2_135 : ∀ p, p < np → f2 135 p = nI (dg nc np k p) ∧ dg nc np k p < nc := fun p hp => by
      rw [hf2, setR_s, ly_at nc np k (f 135) hp]
      exact ⟨rfl, dg_lt hnc np k p⟩
    have f2_130 : f2 130 = z.1 130 := by rw [r2 130 (by decide), fr130]
    have p2' : SM f2 nc np (fitI z) (fun j => chN z (dg nc np j) np) o := SM_c (r2 129 (by decide)) (r2 136 (by decide)) p2
    have hf2' : ∀ r, r ≠ 129 → r ≠ 135 → r ≠ 136 → f2 r = f1 r := fun r h1 h2 h3 => by rw [r2 r h2, hf r h1 h2 h3]
    have hly : lyB (f, t) (itr (lyG nc np) np (k, f 135)).2 np = true ↔ ∀ a, a < np → ∀ b, b < a → dg nc np k a = dg nc np k b → bt (lcrow z np ns ch a) b = false := by
      rw [ly_t (Or.inl hnc) hn.2.1 hn.1]
      have e134 : ∀ a, a < np → f 134 a = lcrow z np ns ch a := fun a ha => by rw [hf 134 (by decide) (by decide) (by decide)]; exact f134 a ha
      exact ⟨fun q a ha b hb e => by rw [← e134 a ha]; exact q a ha b hb e, fun q a ha b hb e => by show bt (f 134 a) b = false; rw [e134 a ha]; exact q a ha b hb e⟩
    have skip : (¬ Vd nc np (lcrow z np ns ch) (nI c0) 0 k ∨ ∃ i, o = some i ∧ scd nc np (hotI z) k ≤ scd nc np (hotI z) i) → ∀ x y, Ev E (d + 4) zm_X9_hot 49 [some (.ref 129), some (.int (nI c0)), some (.int pt), some (.int (nI nc)), some (.int (nI (k + 1))), x, y] [] (HP (f2, t)) Q := fun q x y => ih (k + 1) f2 x y (by omega) hf2' ⟨o, Pk_skip p1 (by omega) (fun k' k1 k2 hv => by
      have e : k' = k := by omega
      subst e
      rcases q with q | q
      · exact absurd hv q
      · exact q), p2'⟩
    cases hb : lyB (f, t) (itr (lyG nc np) np (k, f 135)).2 np with
    | false =>
      have q : ¬ Vd nc np (lcrow z np ns ch) (nI c0) 0 k := fun hv => by
        have := hly.mpr hv.1
        rw [hb] at this
        cases this
      rw [e_X9_hot_49]
      simp only [↓e_X9_hot_5, ↓e_X9_hot_8, ↓e_X9_hot_13, ↓e_X9_hot_18, ↓e_X9_hot_21, ↓e_X9_hot_28, ↓e_X9_hot_29, ↓e_X9_hot_33, ↓e_X9_hot_36, ↓e_X9_hot_42, ↓e_X9_hot_46, ↓e_X9_hot_56, ↓e_X9_hot_59, ↓e_X9_hot_66, ↓e_X9_hot_69, ↓e_X9_hot_73, ↓e_X9_hot_80, ↓e_X9_hot_92, ↓e_X9_hot_95, ↓e_X9_hot_98, ↓e_X9_hot_104, ↓e_X9_hot_107, ↓e_X9_hot_111, ↓e_X9_hot_117, ↓e_X9_hot_120, ↓e_X9_hot_124, ↓e_X9_hot_125, ↓e_X9_hot_128, ↓e_X9_hot_137, ↓e_X9_hot_141, ↓e_X9_hot_147, ↓e_X9_hot_150, ↓e_X9_hot_156, ↓e_X9_hot_159, ↓e_X9_hot_165, ↓e_X9_hot_168, ↓e_X9_hot_174, ↓e_X9_hot_177, ↓e_X9_hot_185, ↓e_X9_hot_195, ↓e_X9_hot_198, ↓e_X9_hot_205, ↓e_X9_hot_208, ↓e_X9_hot_213, ↓e_X9_hot_217, ↓e_X9_hot_220, ↓e_X9_hot_224, ↓e_X9_hot_226, v9 o9_129, mr, e, ml, hb, zps_s, bI_0, zk_i, zk_r, zk_n, nI_1, ↓reduceIte]
      exact skip (Or.inl q) _ _
    | true =>
      have hV1 := hly.mp hb
      have e104 : f2 130 104 = nI np := by rw [f2_130]; exact hm.1
      have mp := m_players E (d + 3) hn.1 (z := (f2, t)) e104
      have hD6 : ∀ p, p < np → f2 135 p = nI (dg nc np k p) ∧ dg nc np k p < 6 := fun p hp => ⟨(f2_135 p hp).1, by have := (f2_135 p hp).2; omega⟩
      have hpb := pl_bt (f := f2) hD6 (show c0 < 32 by omega)
      have e0 := bit0 (show c0 < 32 by omega) (itr (fun i b => b ||| (1 <<< (f2 135 i &&& 31))) np 0)
      by_cases hin : ∃ p, p < np ∧ dg nc np k p = c0
      · have eF : (itr (fun i b => b ||| (1 <<< (f2 135 i &&& 31))) np 0 >>> (nI c0 &&& 31) &&& 1 = 0) = False := by
          rw [e0, hpb.mpr hin]
          simp
        rw [e_X9_hot_49]
        simp only [↓e_X9_hot_5, ↓e_X9_hot_8, ↓e_X9_hot_13, ↓e_X9_hot_18, ↓e_X9_hot_21, ↓e_X9_hot_28, ↓e_X9_hot_29, ↓e_X9_hot_33, ↓e_X9_hot_36, ↓e_X9_hot_42, ↓e_X9_hot_46, ↓e_X9_hot_56, ↓e_X9_hot_59, ↓e_X9_hot_66, ↓e_X9_hot_69, ↓e_X9_hot_73, ↓e_X9_hot_80, ↓e_X9_hot_92, ↓e_X9_hot_95, ↓e_X9_hot_98, ↓e_X9_hot_104, ↓e_X9_hot_107, ↓e_X9_hot_111, ↓e_X9_hot_117, ↓e_X9_hot_120, ↓e_X9_hot_124, ↓e_X9_hot_125, ↓e_X9_hot_128, ↓e_X9_hot_137, ↓e_X9_hot_141, ↓e_X9_hot_147, ↓e_X9_hot_150, ↓e_X9_hot_156, ↓e_X9_hot_159, ↓e_X9_hot_165, ↓e_X9_hot_168, ↓e_X9_hot_174, ↓e_X9_hot_177, ↓e_X9_hot_185, ↓e_X9_hot_195, ↓e_X9_hot_198, ↓e_X9_hot_205, ↓e_X9_hot_208, ↓e_X9_hot_213, ↓e_X9_hot_217, ↓e_X9_hot_220, ↓e_X9_hot_224, ↓e_X9_hot_226, v9 o9_129, mr, e, ml, hb, mp, eF, zps_s, bI_0, zk_i, zk_r, zk_n, nI_1, reduceCtorEq, ↓reduceIte]
        exact skip (Or.inl (fun hv => by
          obtain ⟨p, hp, ep⟩ := hin
          exact hv.2.1 p hp (by rw [ep]))) _ _
      · have eT : (itr (fun i b => b ||| (1 <<< (f2 135 i &&& 31))) np 0 >>> (nI c0 &&& 31) &&& 1 = 0) = True := by
          rw [e0]
          cases hbb : bt (itr (fun i b => b ||| (1 <<< (f2 135 i &&& 31))) np 0) c0 with
          | false => simp
          | true => exact absurd (hpb.mp hbb) hin
        have hV : Vd nc np (lcrow z np ns ch) (nI c0) 0 k := ⟨hV1, fun a ha q => hin ⟨a, ha, (nI_eq (by have := (f2_135 a ha).2; omega) (by omega)).mp q⟩, fun q => by omega⟩
        -- how many parts another one has
        have inner := itr_eq (fun i (s : Nat) => Ev E (d + 4) zm_X9_hot 86 [some (.ref 129), some (.int (nI c0)), some (.int pt), some (.int (nI nc)), some (.int (nI k)), some (.int (nI s)), some (.int (nI i))] [] (HP (f2, t)) Q) (fun p s => s + (if (!decide (z.1 130 (18 + p) = nI (dg nc np k p))) = true then 1 else 0)) 0 np (fun i hi => by
          generalize itr _ i _ = s
          have e18 : (18 : Int32) + nI i = nI (18 + i) := nI_add 18 i
          have es : f2 130 (18 + i) = z.1 130 (18 + i) := by rw [f2_130]
          have fl0 := m_flag E (d + 3) false
          have fl1 := m_flag E (d + 3) true
          rw [bI_f] at fl0
          rw [bI_t] at fl1
          have s0 : nI s + 0 = nI s := nI_add s 0
          by_cases q : z.1 130 (18 + i) = nI (dg nc np k i)
          · have q' : (nI (dg nc np k i) = z.1 130 (18 + i)) = True := eq_true q.symm
            rw [e_X9_hot_86]
            simp only [↓e_X9_hot_5, ↓e_X9_hot_8, ↓e_X9_hot_13, ↓e_X9_hot_18, ↓e_X9_hot_21, ↓e_X9_hot_28, ↓e_X9_hot_29, ↓e_X9_hot_33, ↓e_X9_hot_36, ↓e_X9_hot_42, ↓e_X9_hot_46, ↓e_X9_hot_56, ↓e_X9_hot_59, ↓e_X9_hot_66, ↓e_X9_hot_69, ↓e_X9_hot_73, ↓e_X9_hot_80, ↓e_X9_hot_92, ↓e_X9_hot_95, ↓e_X9_hot_98, ↓e_X9_hot_104, ↓e_X9_hot_107, ↓e_X9_hot_111, ↓e_X9_hot_117, ↓e_X9_hot_120, ↓e_X9_hot_124, ↓e_X9_hot_125, ↓e_X9_hot_128, ↓e_X9_hot_137, ↓e_X9_hot_141, ↓e_X9_hot_147, ↓e_X9_hot_150, ↓e_X9_hot_156, ↓e_X9_hot_159, ↓e_X9_hot_165, ↓e_X9_hot_168, ↓e_X9_hot_174, ↓e_X9_hot_177, ↓e_X9_hot_185, ↓e_X9_hot_195, ↓e_X9_hot_198, ↓e_X9_hot_205, ↓e_X9_hot_208, ↓e_X9_hot_213, ↓e_X9_hot_217, ↓e_X9_hot_220, ↓e_X9_hot_224, ↓e_X9_hot_226, g9 o9_129, Nat.reduceAdd, stL, e104, e18, es, st_k (show 18 + i < 1083 by omega), ri_k i135 (show i < 6 by omega) (by decide), (f2_135 i hi).1, q', fl0, s0, zps_s, zk_i, zk_r, zk_n, nI_lt_iff (show i < 2 ^ 31 by omega) n1, hi, ↓reduceIte, nI_1]
            rw [decide_eq_true q]
            rfl
          · have q' : (nI (dg nc np k i) = z.1 130 (18 + i)) = False := eq_false (fun e => q e.symm)
            rw [e_X9_hot_86]
            simp only [↓e_X9_hot_5, ↓e_X9_hot_8, ↓e_X9_hot_13, ↓e_X9_hot_18, ↓e_X9_hot_21, ↓e_X9_hot_28, ↓e_X9_hot_29, ↓e_X9_hot_33, ↓e_X9_hot_36, ↓e_X9_hot_42, ↓e_X9_hot_46, ↓e_X9_hot_56, ↓e_X9_hot_59, ↓e_X9_hot_66, ↓e_X9_hot_69, ↓e_X9_hot_73, ↓e_X9_hot_80, ↓e_X9_hot_92, ↓e_X9_hot_95, ↓e_X9_hot_98, ↓e_X9_hot_104, ↓e_X9_hot_107, ↓e_X9_hot_111, ↓e_X9_hot_117, ↓e_X9_hot_120, ↓e_X9_hot_124, ↓e_X9_hot_125, ↓e_X9_hot_128, ↓e_X9_hot_137, ↓e_X9_hot_141, ↓e_X9_hot_147, ↓e_X9_hot_150, ↓e_X9_hot_156, ↓e_X9_hot_159, ↓e_X9_hot_165, ↓e_X9_hot_168, ↓e_X9_hot_174, ↓e_X9_hot_177, ↓e_X9_hot_185, ↓e_X9_hot_195, ↓e_X9_hot_198, ↓e_X9_hot_205, ↓e_X9_hot_208, ↓e_X9_hot_213, ↓e_X9_hot_217, ↓e_X9_hot_220, ↓e_X9_hot_224, ↓e_X9_hot_226, g9 o9_129, Nat.reduceAdd, stL, e104, e18, es, st_k (show 18 + i < 1083 by omega), ri_k i135 (show i < 6 by omega) (by decide), (f2_135 i hi).1, q', fl1, zps_s, zk_i, zk_r, zk_n, nI_lt_iff (show i < 2 ^ 31 by omega) n1, hi, ↓reduceIte, nI_1]
            rw [decide_eq_false q]
            rfl)
        have ec : ∀ n, itr (fun p s => s + (if (!decide (z.1 130 (18 + p) = nI (dg nc np k p))) = true then 1 else 0)) n 0 = chN z (dg nc np k) n := fun n => by
          induction n with
          | zero => rfl
          | succ n ih =>
            rw [itr_s, ih]
            rfl
        rw [ec] at inner
        simp only [nI_0] at inner
        have rf := m_rowFit E (d + 1) hn.1 (z := (f2, t)) e104 (g := dg nc np k) (fun i hi => hD6 i hi)
        have efit : itr (fun i b => b + fitM (f2, t) (dg nc np k i) i) np 0 = iI (scd nc np (fitI z) k) := by
          rw [itr_congr (g := fun i b => b + fitM z (dg nc np k i) i) np (fun i hi => by rw [fitM_c (z := z) f2_130]), rf_sum h (fun p hp => (f2_135 p hp).2) np (Nat.le_refl _)]
          rfl
        rw [efit] at rf
        have hs := fun j => hot_sc h (D := dg nc np j) (fun p _ => dg_lt hnc np j p) np (Nat.le_refl _)
        have bd : ∀ j, 0 ≤ scd nc np (fitI z) j ∧ scd nc np (fitI z) j ≤ 150 ∧ scd nc np (hotI z) j = scd nc np (fitI z) j - 1000 * (chN z (dg nc np j) np : Int) ∧ chN z (dg nc np j) np ≤ 6 := fun j => by
          obtain ⟨a1, a2, a3, a4⟩ := hs j
          unfold scd
          omega
        have tk := m_takes E (d + 3) (iI (scd nc np (fitI z) k)) (nI (chN z (dg nc np k) np)) hn.1 (z := (f2, t)) e104
        have take : (∀ i, o = some i → scd nc np (hotI z) i < scd nc np (hotI z) k) → ∀ x y, Ev E (d + 4) zm_X9_hot 49 [some (.ref 129), some (.int (nI c0)), some (.int pt), some (.int (nI nc)), some (.int (nI (k + 1))), x, y] [] (HP (setR (setR f2 129 (upd (upd (upd (f2 129) 14 1) 12 (iI (scd nc np (fitI z) k))) 13 (nI (chN z (dg nc np k) np)))) 136 (itr (fun i g => upd g i (f2 135 i)) np (f2 136)), t)) Q := fun q x y => ih (k + 1) _ x y (by omega) (fun r h1 h2 h3 => by rw [setR_n h3, setR_n h1]; exact hf2' r h1 h2 h3) ⟨some k, Pk_take p1 hV q, SM_take rfl rfl (fun p hp => (f2_135 p hp).1)⟩
        have ent : ∀ R, (Ev E (d + 4) zm_X9_hot 86 [some (.ref 129), some (.int (nI c0)), some (.int pt), some (.int (nI nc)), some (.int (nI k)), some (.int (nI (chN z (dg nc np k) np))), some (.int (nI np))] [] (HP (f2, t)) Q = R) → Ev E (d + 4) zm_X9_hot 49 [some (.ref 129), some (.int (nI c0)), some (.int pt), some (.int (nI nc)), some (.int (nI k)), x, y] [] (HP (f, t)) Q = R := fun R hR => by
          rw [e_X9_hot_49]
          simp only [↓e_X9_hot_5, ↓e_X9_hot_8, ↓e_X9_hot_13, ↓e_X9_hot_18, ↓e_X9_hot_21, ↓e_X9_hot_28, ↓e_X9_hot_29, ↓e_X9_hot_33, ↓e_X9_hot_36, ↓e_X9_hot_42, ↓e_X9_hot_46, ↓e_X9_hot_56, ↓e_X9_hot_59, ↓e_X9_hot_66, ↓e_X9_hot_69, ↓e_X9_hot_73, ↓e_X9_hot_80, ↓e_X9_hot_92, ↓e_X9_hot_95, ↓e_X9_hot_98, ↓e_X9_hot_104, ↓e_X9_hot_107, ↓e_X9_hot_111, ↓e_X9_hot_117, ↓e_X9_hot_120, ↓e_X9_hot_124, ↓e_X9_hot_125, ↓e_X9_hot_128, ↓e_X9_hot_137, ↓e_X9_hot_141, ↓e_X9_hot_147, ↓e_X9_hot_150, ↓e_X9_hot_156, ↓e_X9_hot_159, ↓e_X9_hot_165, ↓e_X9_hot_168, ↓e_X9_hot_174, ↓e_X9_hot_177, ↓e_X9_hot_185, ↓e_X9_hot_195, ↓e_X9_hot_198, ↓e_X9_hot_205, ↓e_X9_hot_208, ↓e_X9_hot_213, ↓e_X9_hot_217, ↓e_X9_hot_220, ↓e_X9_hot_224, ↓e_X9_hot_226, v9 o9_129, mr, e, ml, hb, mp, eT, zps_s, bI_0, zk_i, zk_r, zk_n, reduceCtorEq, ↓reduceIte]
          rw [inner]
          exact hR
        cases o with
        | none =>
          have e14 : f2 129 14 = 0 := p2'
          rw [ent _ rfl, e_X9_hot_86]
          simp only [↓e_X9_hot_5, ↓e_X9_hot_8, ↓e_X9_hot_13, ↓e_X9_hot_18, ↓e_X9_hot_21, ↓e_X9_hot_28, ↓e_X9_hot_29, ↓e_X9_hot_33, ↓e_X9_hot_36, ↓e_X9_hot_42, ↓e_X9_hot_46, ↓e_X9_hot_56, ↓e_X9_hot_59, ↓e_X9_hot_66, ↓e_X9_hot_69, ↓e_X9_hot_73, ↓e_X9_hot_80, ↓e_X9_hot_92, ↓e_X9_hot_95, ↓e_X9_hot_98, ↓e_X9_hot_104, ↓e_X9_hot_107, ↓e_X9_hot_111, ↓e_X9_hot_117, ↓e_X9_hot_120, ↓e_X9_hot_124, ↓e_X9_hot_125, ↓e_X9_hot_128, ↓e_X9_hot_137, ↓e_X9_hot_141, ↓e_X9_hot_147, ↓e_X9_hot_150, ↓e_X9_hot_156, ↓e_X9_hot_159, ↓e_X9_hot_165, ↓e_X9_hot_168, ↓e_X9_hot_174, ↓e_X9_hot_177, ↓e_X9_hot_185, ↓e_X9_hot_195, ↓e_X9_hot_198, ↓e_X9_hot_205, ↓e_X9_hot_208, ↓e_X9_hot_213, ↓e_X9_hot_217, ↓e_X9_hot_220, ↓e_X9_hot_224, ↓e_X9_hot_226, g9 o9_129, v9 o9_129, Nat.reduceAdd, stL, e104, rf, e14, tk, zps_s, zps_n, zk_i, zk_r, zk_n, nI_lt_iff n1 n1, Nat.lt_irrefl, nI_1, ↓reduceIte]
          exact take (fun i q => by cases q) _ _
        | some i =>
          have e14 : f2 129 14 = 1 := p2'.1
          have e12 : f2 129 12 = iI (scd nc np (fitI z) i) := p2'.2.1
          have e13 : f2 129 13 = nI (chN z (dg nc np i) np) := p2'.2.2.1
          have bi := bd i
          have bk := bd k
          have el : (iI (scd nc np (fitI z) i) < iI (scd nc np (fitI z) k)) = (scd nc np (fitI z) i < scd nc np (fitI z) k) := iI_lt (by omega) (by omega) (by omega) (by omega)
          have e1 : (nI (chN z (dg nc np k) np) < nI (chN z (dg nc np i) np)) = (chN z (dg nc np k) np < chN z (dg nc np i) np) := nI_lt_iff (by omega) (by omega)
          have e2 : (nI (chN z (dg nc np k) np) = nI (chN z (dg nc np i) np)) = (chN z (dg nc np k) np = chN z (dg nc np i) np) := propext (nI_eq (by omega) (by omega))
          by_cases q1 : chN z (dg nc np k) np < chN z (dg nc np i) np
          · rw [ent _ rfl, e_X9_hot_86]
            simp only [↓e_X9_hot_5, ↓e_X9_hot_8, ↓e_X9_hot_13, ↓e_X9_hot_18, ↓e_X9_hot_21, ↓e_X9_hot_28, ↓e_X9_hot_29, ↓e_X9_hot_33, ↓e_X9_hot_36, ↓e_X9_hot_42, ↓e_X9_hot_46, ↓e_X9_hot_56, ↓e_X9_hot_59, ↓e_X9_hot_66, ↓e_X9_hot_69, ↓e_X9_hot_73, ↓e_X9_hot_80, ↓e_X9_hot_92, ↓e_X9_hot_95, ↓e_X9_hot_98, ↓e_X9_hot_104, ↓e_X9_hot_107, ↓e_X9_hot_111, ↓e_X9_hot_117, ↓e_X9_hot_120, ↓e_X9_hot_124, ↓e_X9_hot_125, ↓e_X9_hot_128, ↓e_X9_hot_137, ↓e_X9_hot_141, ↓e_X9_hot_147, ↓e_X9_hot_150, ↓e_X9_hot_156, ↓e_X9_hot_159, ↓e_X9_hot_165, ↓e_X9_hot_168, ↓e_X9_hot_174, ↓e_X9_hot_177, ↓e_X9_hot_185, ↓e_X9_hot_195, ↓e_X9_hot_198, ↓e_X9_hot_205, ↓e_X9_hot_208, ↓e_X9_hot_213, ↓e_X9_hot_217, ↓e_X9_hot_220, ↓e_X9_hot_224, ↓e_X9_hot_226, g9 o9_129, v9 o9_129, Nat.reduceAdd, stL, e104, rf, e14, e13, e1, q1, i01, tk, zps_s, zps_n, zk_i, zk_r, zk_n, nI_lt_iff n1 n1, Nat.lt_irrefl, nI_1, ↓reduceIte]
            exact take (fun i' q' => by cases q'; omega) _ _
          · by_cases q2 : chN z (dg nc np k) np = chN z (dg nc np i) np
            · have q2' : (chN z (dg nc np k) np = chN z (dg nc np i) np) = True := eq_true q2
              by_cases q3 : scd nc np (fitI z) i < scd nc np (fitI z) k
              · rw [ent _ rfl, e_X9_hot_86]
                simp only [↓e_X9_hot_5, ↓e_X9_hot_8, ↓e_X9_hot_13, ↓e_X9_hot_18, ↓e_X9_hot_21, ↓e_X9_hot_28, ↓e_X9_hot_29, ↓e_X9_hot_33, ↓e_X9_hot_36, ↓e_X9_hot_42, ↓e_X9_hot_46, ↓e_X9_hot_56, ↓e_X9_hot_59, ↓e_X9_hot_66, ↓e_X9_hot_69, ↓e_X9_hot_73, ↓e_X9_hot_80, ↓e_X9_hot_92, ↓e_X9_hot_95, ↓e_X9_hot_98, ↓e_X9_hot_104, ↓e_X9_hot_107, ↓e_X9_hot_111, ↓e_X9_hot_117, ↓e_X9_hot_120, ↓e_X9_hot_124, ↓e_X9_hot_125, ↓e_X9_hot_128, ↓e_X9_hot_137, ↓e_X9_hot_141, ↓e_X9_hot_147, ↓e_X9_hot_150, ↓e_X9_hot_156, ↓e_X9_hot_159, ↓e_X9_hot_165, ↓e_X9_hot_168, ↓e_X9_hot_174, ↓e_X9_hot_177, ↓e_X9_hot_185, ↓e_X9_hot_195, ↓e_X9_hot_198, ↓e_X9_hot_205, ↓e_X9_hot_208, ↓e_X9_hot_213, ↓e_X9_hot_217, ↓e_X9_hot_220, ↓e_X9_hot_224, ↓e_X9_hot_226, g9 o9_129, v9 o9_129, Nat.reduceAdd, stL, e104, rf, e14, e13, e12, e1, e2, el, q1, q2', q3, i01, tk, zps_s, zps_n, zk_i, zk_r, zk_n, nI_lt_iff n1 n1, Nat.lt_irrefl, nI_1, ↓reduceIte]
                exact take (fun i' q' => by cases q'; omega) _ _
              · rw [ent _ rfl, e_X9_hot_86]
                simp only [↓e_X9_hot_5, ↓e_X9_hot_8, ↓e_X9_hot_13, ↓e_X9_hot_18, ↓e_X9_hot_21, ↓e_X9_hot_28, ↓e_X9_hot_29, ↓e_X9_hot_33, ↓e_X9_hot_36, ↓e_X9_hot_42, ↓e_X9_hot_46, ↓e_X9_hot_56, ↓e_X9_hot_59, ↓e_X9_hot_66, ↓e_X9_hot_69, ↓e_X9_hot_73, ↓e_X9_hot_80, ↓e_X9_hot_92, ↓e_X9_hot_95, ↓e_X9_hot_98, ↓e_X9_hot_104, ↓e_X9_hot_107, ↓e_X9_hot_111, ↓e_X9_hot_117, ↓e_X9_hot_120, ↓e_X9_hot_124, ↓e_X9_hot_125, ↓e_X9_hot_128, ↓e_X9_hot_137, ↓e_X9_hot_141, ↓e_X9_hot_147, ↓e_X9_hot_150, ↓e_X9_hot_156, ↓e_X9_hot_159, ↓e_X9_hot_165, ↓e_X9_hot_168, ↓e_X9_hot_174, ↓e_X9_hot_177, ↓e_X9_hot_185, ↓e_X9_hot_195, ↓e_X9_hot_198, ↓e_X9_hot_205, ↓e_X9_hot_208, ↓e_X9_hot_213, ↓e_X9_hot_217, ↓e_X9_hot_220, ↓e_X9_hot_224, ↓e_X9_hot_226, g9 o9_129, v9 o9_129, Nat.reduceAdd, stL, e104, rf, e14, e13, e12, e1, e2, el, q1, q2', q3, i01, zps_s, zps_n, zk_i, zk_r, zk_n, nI_lt_iff n1 n1, Nat.lt_irrefl, nI_1, ↓reduceIte]
                exact skip (Or.inr ⟨i, rfl, by omega⟩) _ _
            · rw [ent _ rfl, e_X9_hot_86]
              simp only [↓e_X9_hot_5, ↓e_X9_hot_8, ↓e_X9_hot_13, ↓e_X9_hot_18, ↓e_X9_hot_21, ↓e_X9_hot_28, ↓e_X9_hot_29, ↓e_X9_hot_33, ↓e_X9_hot_36, ↓e_X9_hot_42, ↓e_X9_hot_46, ↓e_X9_hot_56, ↓e_X9_hot_59, ↓e_X9_hot_66, ↓e_X9_hot_69, ↓e_X9_hot_73, ↓e_X9_hot_80, ↓e_X9_hot_92, ↓e_X9_hot_95, ↓e_X9_hot_98, ↓e_X9_hot_104, ↓e_X9_hot_107, ↓e_X9_hot_111, ↓e_X9_hot_117, ↓e_X9_hot_120, ↓e_X9_hot_124, ↓e_X9_hot_125, ↓e_X9_hot_128, ↓e_X9_hot_137, ↓e_X9_hot_141, ↓e_X9_hot_147, ↓e_X9_hot_150, ↓e_X9_hot_156, ↓e_X9_hot_159, ↓e_X9_hot_165, ↓e_X9_hot_168, ↓e_X9_hot_174, ↓e_X9_hot_177, ↓e_X9_hot_185, ↓e_X9_hot_195, ↓e_X9_hot_198, ↓e_X9_hot_205, ↓e_X9_hot_208, ↓e_X9_hot_213, ↓e_X9_hot_217, ↓e_X9_hot_220, ↓e_X9_hot_224, ↓e_X9_hot_226, g9 o9_129, v9 o9_129, Nat.reduceAdd, stL, e104, rf, e14, e13, e1, e2, q1, q2, i01, zps_s, zps_n, zk_i, zk_r, zk_n, nI_lt_iff n1 n1, Nat.lt_irrefl, nI_1, ↓reduceIte]
              exact skip (Or.inr ⟨i, rfl, by omega⟩) _ _
