/-! PLAN: both sides -/
theorem m_planL (E : zE) (d : Nat) {z : zS} {np nc ns nl ny ch ea : Nat} (h : RT z.1 1 0 np nc ns nl ny ch ea) {m dd : Nat} (hm1 : 1 ≤ m) (hm : m ≤ 40) (hdd : dd ≤ 4) (hns : 0 < ns) {f1 : Nat → Nat → Int32} {t : (Nat → Nat → Int64) × Nat} (f1_130 : f1 130 = z.1 130) (a3 : Int32) (Q : Option Value → zH → Prop) (hQ : ∀ (f : Nat → Nat → Int32) (o : Option Nat) (a6 a7 a8 : Int32) (x10 x11 x12 : Option Value), (∀ r, r ≠ 129 → r ≠ 137 → f r = f1 r) → Pk (fun _ => True) (scP z np nc ns m dd) (ns ^ dd) o → bsL z np nc ns m dd o a6 a7 a8 → Ev E (d + 4) zm_X9_plan 254 [some (.ref 129), some (.int (nI dd)), some (.int (nI m)), some (.int a3), some (.int (nI ns)), some (.int (nI (ns ^ dd))), some (.int a6), some (.int a7), some (.int a8), some (.int (nI (ns ^ dd))), x10, x11, x12] [] (HP (f, t)) Q) : ∀ j k (f : Nat → Nat → Int32) (o : Option Nat) (a6 a7 a8 : Int32) (x10 x11 x12 : Option Value), k + j = ns ^ dd → (∀ r, r ≠ 129 → r ≠ 137 → f r = f1 r) → Pk (fun _ => True) (scP z np nc ns m dd) k o → bsL z np nc ns m dd o a6 a7 a8 → Ev E (d + 4) zm_X9_plan 103 [some (.ref 129), some (.int (nI dd)), some (.int (nI m)), some (.int a3), some (.int (nI ns)), some (.int (nI (ns ^ dd))), some (.int a6), some (.int a7), some (.int a8), some (.int (nI k)), x10, x11, x12] [] (HP (f, t)) Q := by
  obtain ⟨hc, hmm, hn⟩ := rt_F h
  have p74 : ns ^ dd ≤ 2401 := pow74 hn.2.2.1 hdd
  intro j
  induction j with
  | zero =>
    intro k f o a6 a7 a8 x10 x11 x12 hk hf hPk hb
    have e : k = ns ^ dd := by omega
    subst e
    have q := hQ f o a6 a7 a8 x10 x11 x12 hf hPk hb
    rw [e_X9_plan_103]
    simp only [↓e_X9_plan_9, ↓e_X9_plan_12, ↓e_X9_plan_21, ↓e_X9_plan_24, ↓e_X9_plan_36, ↓e_X9_plan_39, ↓e_X9_plan_43, ↓e_X9_plan_44, ↓e_X9_plan_48, ↓e_X9_plan_51, ↓e_X9_plan_58, ↓e_X9_plan_65, ↓e_X9_plan_66, ↓e_X9_plan_78, ↓e_X9_plan_91, ↓e_X9_plan_110, ↓e_X9_plan_118, ↓e_X9_plan_123, ↓e_X9_plan_132, ↓e_X9_plan_137, ↓e_X9_plan_145, ↓e_X9_plan_148, ↓e_X9_plan_152, ↓e_X9_plan_156, ↓e_X9_plan_166, ↓e_X9_plan_174, ↓e_X9_plan_181, ↓e_X9_plan_188, ↓e_X9_plan_192, ↓e_X9_plan_197, ↓e_X9_plan_201, ↓e_X9_plan_202, ↓e_X9_plan_209, ↓e_X9_plan_214, ↓e_X9_plan_216, ↓e_X9_plan_223, ↓e_X9_plan_228, ↓e_X9_plan_230, ↓e_X9_plan_237, ↓e_X9_plan_241, ↓e_X9_plan_244, ↓e_X9_plan_246, ↓e_X9_plan_267, ↓e_X9_plan_272, ↓e_X9_plan_280, ↓e_X9_plan_285, ↓e_X9_plan_290, ↓e_X9_plan_295, ↓e_X9_plan_298, nI_lt_iff (show ns ^ dd < 2 ^ 31 by omega) (show ns ^ dd < 2 ^ 31 by omega), Nat.lt_irrefl, zk_i, zk_r, zk_n, ↓reduceIte]
    exact q
  | succ j ih =>
    intro k f o a6 a7 a8 x10 x11 x12 hkj hf hPk hb
    have hk : k < ns ^ dd := by omega
    have f130 : f 130 = z.1 130 := by rw [hf 130 (by decide) (by decide), f1_130]
    have tk := m_takesKnown E (d + 3) f t
    obtain ⟨g1, hg1⟩ : ∃ g : Nat → Nat → Int32, g = itr (mvF 137 0 130 30) 6 f := ⟨_, rfl⟩
    rw [← hg1] at tk
    obtain ⟨g2, hg2⟩ : ∃ g : Nat → Nat → Int32, g = set2 g1 129 16 0 := ⟨_, rfl⟩
    have r2 : ∀ r, r ≠ 129 → r ≠ 137 → g2 r = f r := fun r h1 h2 => by rw [hg2, set2_a h1, hg1, mv_r h2]
    have k0 : ∀ p, p < np → g2 137 p = nI (KD z m (dg ns dd k) 0 p) := fun p hp => by
      rw [hg2, set2_a (by decide), hg1, mv_to (by decide), if_pos (by omega), f130, Nat.sub_zero]
      exact (q_kn h hp).1
    have s0 : g2 129 16 = nI (m * siS z np nc (dg ns dd k) 0) := by
      rw [hg2, set2_s]
      rfl
    have day := m_days E d h hm hdd hns hk (f1 := f1) (t := t) f1_130 a3 (nI (ns ^ dd)) a6 a7 a8 x12 Q (fun g hg hkn hsi => by
      have lk := m_leastKnown E (d + 2) hn.1 (z := (g, t)) (show g 130 104 = nI np by rw [hg 130 (by decide) (by decide), f1_130]; exact hmm.1)
      have g130 : g 130 = z.1 130 := by rw [hg 130 (by decide) (by decide), f1_130]
      rw [show ((g, t) : zS).1 = g from rfl, lk_n h (k := KD z m (dg ns dd k) dd) g130 (fun p hp => ⟨hkn p hp, KD_le h hp dd⟩) np (Nat.le_refl _)] at lk
      have lb := fun j => lsK_le z (KD z m (dg ns dd j) dd) np
      have sb := fun j => siS_le (z := z) (np := np) hn.2.1 (D := dg ns dd j) dd
      have msb : ∀ j, m * siS z np nc (dg ns dd j) dd ≤ 40 * 24 := fun j => Nat.mul_le_mul hm (by have := sb j; omega)
      have esc : ∀ j, scP z np nc ns m dd j = 100 * (lsK z np (KD z m (dg ns dd j) dd) : Int) - (siS z np nc (dg ns dd j) dd : Int) := fun j => rfl
      have take : (∀ j, o = some j → scP z np nc ns m dd j < scP z np nc ns m dd k) → ∀ x10 x11 x12, Ev E (d + 4) zm_X9_plan 103 [some (.ref 129), some (.int (nI dd)), some (.int (nI m)), some (.int a3), some (.int (nI ns)), some (.int (nI (ns ^ dd))), some (.int (nI k)), some (.int (nI (lsK z np (KD z m (dg ns dd k) dd)))), some (.int (nI (m * siS z np nc (dg ns dd k) dd))), some (.int (nI (k + 1))), x10, x11, x12] [] (HP (g, t)) Q := fun q x10 x11 x12 => ih (k + 1) g (some k) _ _ _ x10 x11 x12 (by omega) hg (Pk_take hPk trivial q) ⟨rfl, rfl, rfl⟩
      have skip : (∃ j, o = some j ∧ scP z np nc ns m dd k ≤ scP z np nc ns m dd j) → ∀ x10 x11 x12, Ev E (d + 4) zm_X9_plan 103 [some (.ref 129), some (.int (nI dd)), some (.int (nI m)), some (.int a3), some (.int (nI ns)), some (.int (nI (ns ^ dd))), some (.int a6), some (.int a7), some (.int a8), some (.int (nI (k + 1))), x10, x11, x12] [] (HP (g, t)) Q := fun q x10 x11 x12 => ih (k + 1) g o _ _ _ x10 x11 x12 (by omega) hg (Pk_skip hPk (by omega) (fun k' k1 k2 _ => by
        have e : k' = k := by omega
        subst e
        exact q)) hb
      cases o with
      | none =>
        obtain ⟨b1, b2, b3⟩ := hb
        subst b1
        simp only [↓e_X9_plan_9, ↓e_X9_plan_12, ↓e_X9_plan_21, ↓e_X9_plan_24, ↓e_X9_plan_36, ↓e_X9_plan_39, ↓e_X9_plan_43, ↓e_X9_plan_44, ↓e_X9_plan_48, ↓e_X9_plan_51, ↓e_X9_plan_58, ↓e_X9_plan_65, ↓e_X9_plan_66, ↓e_X9_plan_78, ↓e_X9_plan_91, ↓e_X9_plan_110, ↓e_X9_plan_118, ↓e_X9_plan_123, ↓e_X9_plan_132, ↓e_X9_plan_137, ↓e_X9_plan_145, ↓e_X9_plan_148, ↓e_X9_plan_152, ↓e_X9_plan_156, ↓e_X9_plan_162, ↓e_X9_plan_166, ↓e_X9_plan_174, ↓e_X9_plan_181, ↓e_X9_plan_188, ↓e_X9_plan_192, ↓e_X9_plan_197, ↓e_X9_plan_201, ↓e_X9_plan_202, ↓e_X9_plan_209, ↓e_X9_plan_214, ↓e_X9_plan_216, ↓e_X9_plan_223, ↓e_X9_plan_228, ↓e_X9_plan_230, ↓e_X9_plan_237, ↓e_X9_plan_241, ↓e_X9_plan_244, ↓e_X9_plan_246, ↓e_X9_plan_267, ↓e_X9_plan_272, ↓e_X9_plan_280, ↓e_X9_plan_285, ↓e_X9_plan_290, ↓e_X9_plan_295, ↓e_X9_plan_298, g9 o9_129, v9 o9_129, Nat.reduceAdd, lk, hsi, i01, zps_s, nI_1, zk_i, zk_r, zk_n, ↓reduceIte]
        exact take (fun j q => by cases q) _ _ _
      | some i =>
        obtain ⟨b1, b2, b3⟩ := hb
        subst b1
        subst b2
        subst b3
        have hi : i < ns ^ dd := Nat.lt_trans hPk.1 hk
        have ne : (nI i = -1) = False := eq_false (fun e => by
          have := nI_pos (show i < 2 ^ 31 by omega)
          rw [e] at this
          exact this (by decide))
        have e1 : (nI (lsK z np (KD z m (dg ns dd i) dd)) < nI (lsK z np (KD z m (dg ns dd k) dd))) = (lsK z np (KD z m (dg ns dd i) dd) < lsK z np (KD z m (dg ns dd k) dd)) := nI_lt_iff (by have := lb i; omega) (by have := lb k; omega)
        have e2 : (nI (lsK z np (KD z m (dg ns dd k) dd)) = nI (lsK z np (KD z m (dg ns dd i) dd))) = (lsK z np (KD z m (dg ns dd k) dd) = lsK z np (KD z m (dg ns dd i) dd)) := propext (nI_eq (by have := lb k; omega) (by have := lb i; omega))
        have e3 : (nI (m * siS z np nc (dg ns dd k) dd) < nI (m * siS z np nc (dg ns dd i) dd)) = (siS z np nc (dg ns dd k) dd < siS z np nc (dg ns dd i) dd) := by
          rw [nI_lt_iff (by have := msb k; omega) (by have := msb i; omega)]
          exact propext ⟨fun q => Nat.lt_of_mul_lt_mul_left q, fun q => Nat.mul_lt_mul_of_pos_left q (by omega)⟩
        have ei := esc i
        have ek := esc k
        have si := sb i
        have sk := sb k
        by_cases q1 : lsK z np (KD z m (dg ns dd i) dd) < lsK z np (KD z m (dg ns dd k) dd)
        · simp only [↓e_X9_plan_9, ↓e_X9_plan_12, ↓e_X9_plan_21, ↓e_X9_plan_24, ↓e_X9_plan_36, ↓e_X9_plan_39, ↓e_X9_plan_43, ↓e_X9_plan_44, ↓e_X9_plan_48, ↓e_X9_plan_51, ↓e_X9_plan_58, ↓e_X9_plan_65, ↓e_X9_plan_66, ↓e_X9_plan_78, ↓e_X9_plan_91, ↓e_X9_plan_110, ↓e_X9_plan_118, ↓e_X9_plan_123, ↓e_X9_plan_132, ↓e_X9_plan_137, ↓e_X9_plan_145, ↓e_X9_plan_148, ↓e_X9_plan_152, ↓e_X9_plan_156, ↓e_X9_plan_162, ↓e_X9_plan_166, ↓e_X9_plan_174, ↓e_X9_plan_181, ↓e_X9_plan_188, ↓e_X9_plan_192, ↓e_X9_plan_197, ↓e_X9_plan_201, ↓e_X9_plan_202, ↓e_X9_plan_209, ↓e_X9_plan_214, ↓e_X9_plan_216, ↓e_X9_plan_223, ↓e_X9_plan_228, ↓e_X9_plan_230, ↓e_X9_plan_237, ↓e_X9_plan_241, ↓e_X9_plan_244, ↓e_X9_plan_246, ↓e_X9_plan_267, ↓e_X9_plan_272, ↓e_X9_plan_280, ↓e_X9_plan_285, ↓e_X9_plan_290, ↓e_X9_plan_295, ↓e_X9_plan_298, g9 o9_129, v9 o9_129, Nat.reduceAdd, lk, hsi, ne, e1, q1, i01, zps_s, nI_1, zk_i, zk_r, zk_n, ↓reduceIte]
          exact take (fun j q => by cases q; omega) _ _ _
        · by_cases q2 : lsK z np (KD z m (dg ns dd k) dd) = lsK z np (KD z m (dg ns dd i) dd)
          · have q2' : (lsK z np (KD z m (dg ns dd k) dd) = lsK z np (KD z m (dg ns dd i) dd)) = True := eq_true q2
            by_cases q3 : siS z np nc (dg ns dd k) dd < siS z np nc (dg ns dd i) dd
            · simp only [↓e_X9_plan_9, ↓e_X9_plan_12, ↓e_X9_plan_21, ↓e_X9_plan_24, ↓e_X9_plan_36, ↓e_X9_plan_39, ↓e_X9_plan_43, ↓e_X9_plan_44, ↓e_X9_plan_48, ↓e_X9_plan_51, ↓e_X9_plan_58, ↓e_X9_plan_65, ↓e_X9_plan_66, ↓e_X9_plan_78, ↓e_X9_plan_91, ↓e_X9_plan_110, ↓e_X9_plan_118, ↓e_X9_plan_123, ↓e_X9_plan_132, ↓e_X9_plan_137, ↓e_X9_plan_145, ↓e_X9_plan_148, ↓e_X9_plan_152, ↓e_X9_plan_156, ↓e_X9_plan_162, ↓e_X9_plan_166, ↓e_X9_plan_174, ↓e_X9_plan_181, ↓e_X9_plan_188, ↓e_X9_plan_192, ↓e_X9_plan_197, ↓e_X9_plan_201, ↓e_X9_plan_202, ↓e_X9_plan_209, ↓e_X9_plan_214, ↓e_X9_plan_216, ↓e_X9_plan_223, ↓e_X9_plan_228, ↓e_X9_plan_230, ↓e_X9_plan_237, ↓e_X9_plan_241, ↓e_X9_plan_244, ↓e_X9_plan_246, ↓e_X9_plan_267, ↓e_X9_plan_272, ↓e_X9_plan_280, ↓e_X9_plan_285, ↓e_X9_plan_290, ↓e_X9_plan_295, ↓e_X9_plan_298, g9 o9_129, v9 o9_129, Nat.reduceAdd, lk, hsi, ne, e1, e2, e3, q1, q2', q3, i01, zps_s, nI_1, zk_i, zk_r, zk_n, ↓reduceIte]
              exact take (fun j q => by cases q; omega) _ _ _
            · simp only [↓e_X9_plan_9, ↓e_X9_plan_12, ↓e_X9_plan_21, ↓e_X9_plan_24, ↓e_X9_plan_36, ↓e_X9_plan_39, ↓e_X9_plan_43, ↓e_X9_plan_44, ↓e_X9_plan_48, ↓e_X9_plan_51, ↓e_X9_plan_58, ↓e_X9_plan_65, ↓e_X9_plan_66, ↓e_X9_plan_78, ↓e_X9_plan_91, ↓e_X9_plan_110, ↓e_X9_plan_118, ↓e_X9_plan_123, ↓e_X9_plan_132, ↓e_X9_plan_137, ↓e_X9_plan_145, ↓e_X9_plan_148, ↓e_X9_plan_152, ↓e_X9_plan_156, ↓e_X9_plan_162, ↓e_X9_plan_166, ↓e_X9_plan_174, ↓e_X9_plan_181, ↓e_X9_plan_188, ↓e_X9_plan_192, ↓e_X9_plan_197, ↓e_X9_plan_201, ↓e_X9_plan_202, ↓e_X9_plan_209, ↓e_X9_plan_214, ↓e_X9_plan_216, ↓e_X9_plan_223, ↓e_X9_plan_228, ↓e_X9_plan_230, ↓e_X9_plan_237, ↓e_X9_plan_241, ↓e_X9_plan_244, ↓e_X9_plan_246, ↓e_X9_plan_267, ↓e_X9_plan_272, ↓e_X9_plan_280, ↓e_X9_plan_285, ↓e_X9_plan_290, ↓e_X9_plan_295, ↓e_X9_plan_298, g9 o9_129, v9 o9_129, Nat.reduceAdd, lk, hsi, ne, e1, e2, e3, q1, q2', q3, zps_s, nI_1, zk_i, zk_r, zk_n, ↓reduceIte]
              exact skip ⟨i, rfl, by omega⟩ _ _ _
          · simp only [↓e_X9_plan_9, ↓e_X9_plan_12, ↓e_X9_plan_21, ↓e_X9_plan_24, ↓e_X9_plan_36, ↓e_X9_plan_39, ↓e_X9_plan_43, ↓e_X9_plan_44, ↓e_X9_plan_48, ↓e_X9_plan_51, ↓e_X9_plan_58, ↓e_X9_plan_65, ↓e_X9_plan_66, ↓e_X9_plan_78, ↓e_X9_plan_91, ↓e_X9_plan_110, ↓e_X9_plan_118, ↓e_X9_plan_123, ↓e_X9_plan_132, ↓e_X9_plan_137, ↓e_X9_plan_145, ↓e_X9_plan_148, ↓e_X9_plan_152, ↓e_X9_plan_156, ↓e_X9_plan_162, ↓e_X9_plan_166, ↓e_X9_plan_174, ↓e_X9_plan_181, ↓e_X9_plan_188, ↓e_X9_plan_192, ↓e_X9_plan_197, ↓e_X9_plan_201, ↓e_X9_plan_202, ↓e_X9_plan_209, ↓e_X9_plan_214, ↓e_X9_plan_216, ↓e_X9_plan_223, ↓e_X9_plan_228, ↓e_X9_plan_230, ↓e_X9_plan_237, ↓e_X9_plan_241, ↓e_X9_plan_244, ↓e_X9_plan_246, ↓e_X9_plan_267, ↓e_X9_plan_272, ↓e_X9_plan_280, ↓e_X9_plan_285, ↓e_X9_plan_290, ↓e_X9_plan_295, ↓e_X9_plan_298, g9 o9_129, v9 o9_129, Nat.reduceAdd, lk, hsi, ne, e1, e2, q1, q2, zps_s, nI_1, zk_i, zk_r, zk_n, ↓reduceIte]
            exact skip ⟨i, rfl, by omega⟩ _ _ _) dd 0 g2 (by omega) (fun r h1 h2 => by rw [r2 r h1 h2, hf r h1 h2]) k0 s0
    rw [Nat.sub_zero, nI_0] at day
    rw [e_X9_plan_103]
    simp only [↓e_X9_plan_9, ↓e_X9_plan_12, ↓e_X9_plan_21, ↓e_X9_plan_24, ↓e_X9_plan_36, ↓e_X9_plan_39, ↓e_X9_plan_43, ↓e_X9_plan_44, ↓e_X9_plan_48, ↓e_X9_plan_51, ↓e_X9_plan_58, ↓e_X9_plan_65, ↓e_X9_plan_66, ↓e_X9_plan_78, ↓e_X9_plan_91, ↓e_X9_plan_110, ↓e_X9_plan_118, ↓e_X9_plan_123, ↓e_X9_plan_132, ↓e_X9_plan_137, ↓e_X9_plan_145, ↓e_X9_plan_148, ↓e_X9_plan_152, ↓e_X9_plan_156, ↓e_X9_plan_166, ↓e_X9_plan_174, ↓e_X9_plan_181, ↓e_X9_plan_188, ↓e_X9_plan_192, ↓e_X9_plan_197, ↓e_X9_plan_201, ↓e_X9_plan_202, ↓e_X9_plan_209, ↓e_X9_plan_214, ↓e_X9_plan_216, ↓e_X9_plan_223, ↓e_X9_plan_228, ↓e_X9_plan_230, ↓e_X9_plan_237, ↓e_X9_plan_241, ↓e_X9_plan_244, ↓e_X9_plan_246, ↓e_X9_plan_267, ↓e_X9_plan_272, ↓e_X9_plan_280, ↓e_X9_plan_285, ↓e_X9_plan_290, ↓e_X9_plan_295, ↓e_X9_plan_298, p9 o9_129, v9 o9_129, tk, ← hg2, zps_n, nI_lt_iff (show k < 2 ^ 31 by omega) (show ns ^ dd < 2 ^ 31 by omega), hk, zk_i, zk_r, zk_n, ↓reduceIte]
    exact day
theorem m_d40 : (40 : Int64).toInt = ((40 : Nat) : Int) := by decide
/-- the reference's answer -/
theorem m_plan (E : zE) (d : Nat) {z z0 : zS} {np nc ns nl ny ch ea : Nat} (h : RT z.1 1 0 np nc ns nl ny ch ea) (h0 : z0.1 130 = z.1 130) {m dd : Nat} (hm1 : 1 ≤ m) (hm : m ≤ 40) (hd1 : 1 ≤ dd) (hdd : dd ≤ 4) (hns : 0 < ns) {i : Int32} (hi : i = -1 ∨ ∃ j, j < dd ∧ i = nI j) {b : Nat} (hb : Pk (fun _ => True) (scP z np nc ns m dd) (ns ^ dd) (some b)) : Hr E (d + 4) 188 [.ref 129, .int (nI dd), .int (nI m), .int i] z0 (fun r z' => z'.2 = z0.2 ∧ (∀ r, r ≠ 129 → r ≠ 137 → z'.1 r = z0.1 r) ∧ r = some (.int (if i = -1 then nI (lsK z np (KD z m (dg ns dd b) dd)) else nI (dg ns dd b i.toNatClampNeg)))) := by
  obtain ⟨hc, hmm, hn⟩ := rt_F h
  have p74 : ∀ e, e ≤ 4 → ns ^ e ≤ 2401 := fun e he => pow74 hn.2.2.1 he
  have e106 : z0.1 130 106 = nI ns := by rw [h0]; exact hmm.2.2.1
  have i1 : inL (nI dd).toInt64 1 4 = true := by
    rw [inL_t, Int32.toInt_toInt64, nI_toInt (by omega)]
    exact ⟨by show (1 : Int) ≤ _; omega, by show _ ≤ (4 : Int); omega⟩
  have i2 : inL (nI m).toInt64 1 40 = true := by
    rw [inL_t, Int32.toInt_toInt64, nI_toInt (by omega)]
    exact ⟨by show (1 : Int) ≤ _; omega, by show _ ≤ (40 : Int); omega⟩
  have i3 : inL i.toInt64 (-1) (nI dd - 1).toInt64 = true := by
    rw [inL_t, Int32.toInt_toInt64, Int32.toInt_toInt64, nI_m1 (by omega)]
    rcases hi with rfl | ⟨j, hj, rfl⟩
    · exact ⟨by decide, by show (-1 : Int) ≤ _; omega⟩
    · rw [nI_toInt (by omega)]
      exact ⟨by show (-1 : Int) ≤ _; omega, by omega⟩
  have z1 : (nI ns = 0) = False := eq_false (nI_ne0 hns (by omega))
  unfold Hr
  generalize hQ : (fun (r : Option Value) (h : zH) => ∃ z' : zS, h = HP z' ∧ (z'.2 = z0.2 ∧ (∀ r, r ≠ 129 → r ≠ 137 → z'.1 r = z0.1 r) ∧ r = some (.int (if i = -1 then nI (lsK z np (KD z m (dg ns dd b) dd)) else nI (dg ns dd b i.toNatClampNeg))))) = Q
  have main := m_planL E d h hm1 hm hdd hns (f1 := z0.1) (t := z0.2) h0 i Q (fun f o a6 a7 a8 x10 x11 x12 hf hPk hbs => by
    have eo := Pk_uniq hb hPk
    subst eo
    obtain ⟨b1, b2, b3⟩ := hbs
    subst b1
    subst b2
    have q : ∀ v, v = (if i = -1 then nI (lsK z np (KD z m (dg ns dd b) dd)) else nI (dg ns dd b i.toNatClampNeg)) → Q (some (.int v)) (HP (f, z0.2)) := fun v hv => by
      rw [← hQ]
      exact ⟨(f, z0.2), rfl, rfl, hf, by rw [hv]⟩
    rcases hi with rfl | ⟨j, hj, rfl⟩
    · have e : ((-1 : Int32) < 0) = True := by decide
      simp only [↓e_X9_plan_9, ↓e_X9_plan_12, ↓e_X9_plan_21, ↓e_X9_plan_24, ↓e_X9_plan_36, ↓e_X9_plan_39, ↓e_X9_plan_43, ↓e_X9_plan_44, ↓e_X9_plan_48, ↓e_X9_plan_51, ↓e_X9_plan_58, ↓e_X9_plan_65, ↓e_X9_plan_66, ↓e_X9_plan_78, ↓e_X9_plan_91, ↓e_X9_plan_110, ↓e_X9_plan_118, ↓e_X9_plan_123, ↓e_X9_plan_132, ↓e_X9_plan_137, ↓e_X9_plan_145, ↓e_X9_plan_148, ↓e_X9_plan_152, ↓e_X9_plan_156, ↓e_X9_plan_166, ↓e_X9_plan_174, ↓e_X9_plan_181, ↓e_X9_plan_188, ↓e_X9_plan_192, ↓e_X9_plan_197, ↓e_X9_plan_201, ↓e_X9_plan_202, ↓e_X9_plan_209, ↓e_X9_plan_214, ↓e_X9_plan_216, ↓e_X9_plan_223, ↓e_X9_plan_228, ↓e_X9_plan_230, ↓e_X9_plan_237, ↓e_X9_plan_241, ↓e_X9_plan_244, ↓e_X9_plan_246, ↓e_X9_plan_254, ↓e_X9_plan_261, ↓e_X9_plan_267, ↓e_X9_plan_272, ↓e_X9_plan_280, ↓e_X9_plan_285, ↓e_X9_plan_290, ↓e_X9_plan_295, ↓e_X9_plan_298, e, zk_i, zk_r, zk_n, ↓reduceIte]
      exact q _ (by rw [if_pos rfl])
    · have ne : (nI j = -1) = False := eq_false (fun e => by
        have := nI_pos (show j < 2 ^ 31 by omega)
        rw [e] at this
        exact this (by decide))
      have lp : ∀ k t', t' + k = j + 1 → ∀ x11 x12, Ev E (d + 4) zm_X9_plan 261 [some (.ref 129), some (.int (nI dd)), some (.int (nI m)), some (.int (nI j)), some (.int (nI ns)), some (.int (nI (ns ^ dd))), some (.int (nI b)), some (.int (nI (lsK z np (KD z m (dg ns dd b) dd)))), some (.int a8), some (.int (nI (ns ^ (dd - t')))), some (.int (nI t')), x11, x12] [] (HP (f, z0.2)) Q := by
        intro k
        induction k with
        | zero =>
          intro t' ht x11 x12
          have e : t' = j + 1 := by omega
          subst e
          have ppos : 0 < ns ^ (dd - (j + 1)) := Nat.pow_pos hns
          have pb2 := p74 (dd - (j + 1)) (by omega)
          have hbk : b < 2401 := Nat.lt_of_lt_of_le hb.1 (p74 dd hdd)
          have z2 : (nI (ns ^ (dd - (j + 1))) = 0) = False := eq_false (nI_ne0 ppos (by omega))
          have hkd : b / ns ^ (dd - (j + 1)) ≤ b := Nat.div_le_self _ _
          have d2 : nI b / nI (ns ^ (dd - (j + 1))) = nI (b / ns ^ (dd - (j + 1))) := nI_div (by omega) (by omega)
          have d3 : nI (b / ns ^ (dd - (j + 1))) - nI (b / ns ^ (dd - (j + 1))) / nI ns * nI ns = nI (dg ns dd b j) := by
            rw [nI_mod (by omega) (by omega)]
            unfold dg
            rw [show dd - 1 - j = dd - (j + 1) by omega]
          have el : (nI j < nI (j + 1)) = True := eq_true (nI_lt (by omega) (by omega))
          rw [e_X9_plan_261]
          simp only [↓e_X9_plan_9, ↓e_X9_plan_12, ↓e_X9_plan_21, ↓e_X9_plan_24, ↓e_X9_plan_36, ↓e_X9_plan_39, ↓e_X9_plan_43, ↓e_X9_plan_44, ↓e_X9_plan_48, ↓e_X9_plan_51, ↓e_X9_plan_58, ↓e_X9_plan_65, ↓e_X9_plan_66, ↓e_X9_plan_78, ↓e_X9_plan_91, ↓e_X9_plan_110, ↓e_X9_plan_118, ↓e_X9_plan_123, ↓e_X9_plan_132, ↓e_X9_plan_137, ↓e_X9_plan_145, ↓e_X9_plan_148, ↓e_X9_plan_152, ↓e_X9_plan_156, ↓e_X9_plan_166, ↓e_X9_plan_174, ↓e_X9_plan_181, ↓e_X9_plan_188, ↓e_X9_plan_192, ↓e_X9_plan_197, ↓e_X9_plan_201, ↓e_X9_plan_202, ↓e_X9_plan_209, ↓e_X9_plan_214, ↓e_X9_plan_216, ↓e_X9_plan_223, ↓e_X9_plan_228, ↓e_X9_plan_230, ↓e_X9_plan_237, ↓e_X9_plan_241, ↓e_X9_plan_244, ↓e_X9_plan_246, ↓e_X9_plan_254, ↓e_X9_plan_267, ↓e_X9_plan_272, ↓e_X9_plan_280, ↓e_X9_plan_285, ↓e_X9_plan_290, ↓e_X9_plan_295, ↓e_X9_plan_298, el, ne, z1, z2, d2, d3, not_false_eq_true, true_and, zk_i, zk_r, zk_n, ↓reduceIte]
          exact q _ (by rw [if_neg (fun x => ne.mp x), nI_cl (by omega)])
        | succ k ihk =>
          intro t' ht x11 x12
          have el : (nI j < nI t') = False := eq_false (nI_nlt (by omega) (by omega))
          have pb1 := p74 (dd - t') (by omega)
          have d1 : nI (ns ^ (dd - t')) / nI ns = nI (ns ^ (dd - (t' + 1))) := by
            rw [nI_div (by omega) (by omega), show dd - t' = (dd - (t' + 1)) + 1 by omega, Nat.pow_succ, Nat.mul_div_cancel _ hns]
          have nx := ihk (t' + 1) (by omega) x11 x12
          rw [e_X9_plan_261]
          simp only [↓e_X9_plan_9, ↓e_X9_plan_12, ↓e_X9_plan_21, ↓e_X9_plan_24, ↓e_X9_plan_36, ↓e_X9_plan_39, ↓e_X9_plan_43, ↓e_X9_plan_44, ↓e_X9_plan_48, ↓e_X9_plan_51, ↓e_X9_plan_58, ↓e_X9_plan_65, ↓e_X9_plan_66, ↓e_X9_plan_78, ↓e_X9_plan_91, ↓e_X9_plan_110, ↓e_X9_plan_118, ↓e_X9_plan_123, ↓e_X9_plan_132, ↓e_X9_plan_137, ↓e_X9_plan_145, ↓e_X9_plan_148, ↓e_X9_plan_152, ↓e_X9_plan_156, ↓e_X9_plan_166, ↓e_X9_plan_174, ↓e_X9_plan_181, ↓e_X9_plan_188, ↓e_X9_plan_192, ↓e_X9_plan_197, ↓e_X9_plan_201, ↓e_X9_plan_202, ↓e_X9_plan_209, ↓e_X9_plan_214, ↓e_X9_plan_216, ↓e_X9_plan_223, ↓e_X9_plan_228, ↓e_X9_plan_230, ↓e_X9_plan_237, ↓e_X9_plan_241, ↓e_X9_plan_244, ↓e_X9_plan_246, ↓e_X9_plan_254, ↓e_X9_plan_267, ↓e_X9_plan_272, ↓e_X9_plan_280, ↓e_X9_plan_285, ↓e_X9_plan_290, ↓e_X9_plan_295, ↓e_X9_plan_298, el, z1, d1, nI_1, not_false_eq_true, true_and, zk_i, zk_r, zk_n, ↓reduceIte]
          exact nx
      have st := lp (j + 1) 0 (by omega) x11 x12
      rw [Nat.sub_zero, nI_0] at st
      simp only [↓e_X9_plan_9, ↓e_X9_plan_12, ↓e_X9_plan_21, ↓e_X9_plan_24, ↓e_X9_plan_36, ↓e_X9_plan_39, ↓e_X9_plan_43, ↓e_X9_plan_44, ↓e_X9_plan_48, ↓e_X9_plan_51, ↓e_X9_plan_58, ↓e_X9_plan_65, ↓e_X9_plan_66, ↓e_X9_plan_78, ↓e_X9_plan_91, ↓e_X9_plan_110, ↓e_X9_plan_118, ↓e_X9_plan_123, ↓e_X9_plan_132, ↓e_X9_plan_137, ↓e_X9_plan_145, ↓e_X9_plan_148, ↓e_X9_plan_152, ↓e_X9_plan_156, ↓e_X9_plan_166, ↓e_X9_plan_174, ↓e_X9_plan_181, ↓e_X9_plan_188, ↓e_X9_plan_192, ↓e_X9_plan_197, ↓e_X9_plan_201, ↓e_X9_plan_202, ↓e_X9_plan_209, ↓e_X9_plan_214, ↓e_X9_plan_216, ↓e_X9_plan_223, ↓e_X9_plan_228, ↓e_X9_plan_230, ↓e_X9_plan_237, ↓e_X9_plan_241, ↓e_X9_plan_244, ↓e_X9_plan_246, ↓e_X9_plan_254, ↓e_X9_plan_267, ↓e_X9_plan_272, ↓e_X9_plan_280, ↓e_X9_plan_285, ↓e_X9_plan_290, ↓e_X9_plan_295, ↓e_X9_plan_298, zk_i, zk_r, zk_n]
      exact st) (ns ^ dd) 0 z0.1 none (-1) 0 0 none none none (by omega) (fun _ _ _ => rfl) (Pk_0 _ _) ⟨rfl, rfl, rfl⟩
  rw [nI_0] at main
  have lr := itr_eq (fun k (r : Int32) => Ev E (d + 4) zm_X9_plan 72 [some (.ref 129), some (.int (nI dd)), some (.int (nI m)), some (.int i), some (.int (nI ns)), some (.int r), some (.int (nI k)), none, none, none, none, none, none] [] (HP z0) Q) (fun _ b => b * nI ns) 1 dd (fun k hk => by
    generalize itr _ k _ = r
    rw [e_X9_plan_72]
    simp only [↓e_X9_plan_9, ↓e_X9_plan_12, ↓e_X9_plan_21, ↓e_X9_plan_24, ↓e_X9_plan_36, ↓e_X9_plan_39, ↓e_X9_plan_43, ↓e_X9_plan_44, ↓e_X9_plan_48, ↓e_X9_plan_51, ↓e_X9_plan_58, ↓e_X9_plan_65, ↓e_X9_plan_66, ↓e_X9_plan_78, ↓e_X9_plan_91, ↓e_X9_plan_110, ↓e_X9_plan_118, ↓e_X9_plan_123, ↓e_X9_plan_132, ↓e_X9_plan_137, ↓e_X9_plan_145, ↓e_X9_plan_148, ↓e_X9_plan_152, ↓e_X9_plan_156, ↓e_X9_plan_166, ↓e_X9_plan_174, ↓e_X9_plan_181, ↓e_X9_plan_188, ↓e_X9_plan_192, ↓e_X9_plan_197, ↓e_X9_plan_201, ↓e_X9_plan_202, ↓e_X9_plan_209, ↓e_X9_plan_214, ↓e_X9_plan_216, ↓e_X9_plan_223, ↓e_X9_plan_228, ↓e_X9_plan_230, ↓e_X9_plan_237, ↓e_X9_plan_241, ↓e_X9_plan_244, ↓e_X9_plan_246, ↓e_X9_plan_267, ↓e_X9_plan_272, ↓e_X9_plan_280, ↓e_X9_plan_285, ↓e_X9_plan_290, ↓e_X9_plan_295, ↓e_X9_plan_298, nI_lt_iff (show k < 2 ^ 31 by omega) (show dd < 2 ^ 31 by omega), hk, nI_1, zk_i, zk_r, zk_n, ↓reduceIte])
  rw [itr_rows, nI_0] at lr
  simp only [↓c_X9_plan, ↓e_X9_plan_0, ↓e_X9_plan_9, ↓e_X9_plan_12, ↓e_X9_plan_21, ↓e_X9_plan_24, ↓e_X9_plan_36, ↓e_X9_plan_39, ↓e_X9_plan_43, ↓e_X9_plan_44, ↓e_X9_plan_48, ↓e_X9_plan_51, ↓e_X9_plan_58, ↓e_X9_plan_65, ↓e_X9_plan_66, ↓e_X9_plan_78, ↓e_X9_plan_91, ↓e_X9_plan_110, ↓e_X9_plan_118, ↓e_X9_plan_123, ↓e_X9_plan_132, ↓e_X9_plan_137, ↓e_X9_plan_145, ↓e_X9_plan_148, ↓e_X9_plan_152, ↓e_X9_plan_156, ↓e_X9_plan_166, ↓e_X9_plan_174, ↓e_X9_plan_181, ↓e_X9_plan_188, ↓e_X9_plan_192, ↓e_X9_plan_197, ↓e_X9_plan_201, ↓e_X9_plan_202, ↓e_X9_plan_209, ↓e_X9_plan_214, ↓e_X9_plan_216, ↓e_X9_plan_223, ↓e_X9_plan_228, ↓e_X9_plan_230, ↓e_X9_plan_237, ↓e_X9_plan_241, ↓e_X9_plan_244, ↓e_X9_plan_246, ↓e_X9_plan_267, ↓e_X9_plan_272, ↓e_X9_plan_280, ↓e_X9_plan_285, ↓e_X9_plan_290, ↓e_X9_plan_295, ↓e_X9_plan_298, g9 o9_129, Nat.reduceAdd, stL, m_in, i1, i2, i3, e106, z1, zps_s, bI_0, zk_i, zk_r, zk_n, reduceCtorEq, ↓reduceIte]
  rw [lr, e_X9_plan_72]
  simp only [↓e_X9_plan_9, ↓e_X9_plan_12, ↓e_X9_plan_21, ↓e_X9_plan_24, ↓e_X9_plan_36, ↓e_X9_plan_39, ↓e_X9_plan_43, ↓e_X9_plan_44, ↓e_X9_plan_48, ↓e_X9_plan_51, ↓e_X9_plan_58, ↓e_X9_plan_65, ↓e_X9_plan_66, ↓e_X9_plan_78, ↓e_X9_plan_91, ↓e_X9_plan_110, ↓e_X9_plan_118, ↓e_X9_plan_123, ↓e_X9_plan_132, ↓e_X9_plan_137, ↓e_X9_plan_145, ↓e_X9_plan_148, ↓e_X9_plan_152, ↓e_X9_plan_156, ↓e_X9_plan_166, ↓e_X9_plan_174, ↓e_X9_plan_181, ↓e_X9_plan_188, ↓e_X9_plan_192, ↓e_X9_plan_197, ↓e_X9_plan_201, ↓e_X9_plan_202, ↓e_X9_plan_209, ↓e_X9_plan_214, ↓e_X9_plan_216, ↓e_X9_plan_223, ↓e_X9_plan_228, ↓e_X9_plan_230, ↓e_X9_plan_237, ↓e_X9_plan_241, ↓e_X9_plan_244, ↓e_X9_plan_246, ↓e_X9_plan_267, ↓e_X9_plan_272, ↓e_X9_plan_280, ↓e_X9_plan_285, ↓e_X9_plan_290, ↓e_X9_plan_295, ↓e_X9_plan_298, nI_lt_iff (show dd < 2 ^ 31 by omega) (show dd < 2 ^ 31 by omega), Nat.lt_irrefl, zk_i, zk_r, zk_n, ↓reduceIte]
  exact main
theorem op_plan (E : zE) (d : Nat) {z : zS} (hI : Inv z) (dd m i : Int32) : OpI E (d + 10) 101 188 [.int dd, .int m, .int i] z := by
  obtain ⟨⟨np, nc, ns, nl, ny, ch, ea, h⟩, -⟩ := id hI
  obtain ⟨hc, hm, hn⟩ := rt_F h
  rcases inL_c (x := dd) 1 4 m_d1 m_d4 (by decide) (by decide) with ⟨hv, a, a1, a2, rfl⟩ | ⟨hv, hv2⟩
  rotate_left
  · refine op_ref hI 0 (-2) (fun K => ?_) (fun z1 K hr e => ?_)
    · by_cases q : dd < 1
      · simp only [↓c_X8_plan, ↓e_X8_plan_0, ↓e_X8_plan_5, ↓e_X8_plan_10, ↓e_X8_plan_14, ↓e_X8_plan_17, ↓e_X8_plan_22, ↓e_X8_plan_27, ↓e_X8_plan_35, ↓e_X8_plan_36, ↓e_X8_plan_40, ↓e_X8_plan_43, ↓e_X8_plan_46, ↓e_X8_plan_49, ↓e_X8_plan_57, ↓e_X8_plan_58, ↓e_X8_plan_62, ↓e_X8_plan_66, ↓e_X8_plan_71, ↓e_X8_plan_76, ↓e_X8_plan_80, ↓e_X8_plan_83, ↓e_X8_plan_86, ↓e_X8_plan_90, ↓e_X8_plan_93, ↓e_X8_plan_95, q, v8 o8_0, Nat.reduceAdd, x_bad, zps_s, zk_i, zk_r, zk_n, ↓reduceIte]
      · have q1 : (4 : Int32) < dd := hv2.resolve_left q
        simp only [↓c_X8_plan, ↓e_X8_plan_0, ↓e_X8_plan_5, ↓e_X8_plan_10, ↓e_X8_plan_14, ↓e_X8_plan_17, ↓e_X8_plan_22, ↓e_X8_plan_27, ↓e_X8_plan_35, ↓e_X8_plan_36, ↓e_X8_plan_40, ↓e_X8_plan_43, ↓e_X8_plan_46, ↓e_X8_plan_49, ↓e_X8_plan_57, ↓e_X8_plan_58, ↓e_X8_plan_62, ↓e_X8_plan_66, ↓e_X8_plan_71, ↓e_X8_plan_76, ↓e_X8_plan_80, ↓e_X8_plan_83, ↓e_X8_plan_86, ↓e_X8_plan_90, ↓e_X8_plan_93, ↓e_X8_plan_95, q, q1, v8 o8_0, Nat.reduceAdd, x_bad, zps_s, zk_i, zk_r, zk_n, ↓reduceIte]
    · simp only [↓c_X9_plan, ↓e_X9_plan_0, ↓e_X9_plan_9, ↓e_X9_plan_12, ↓e_X9_plan_21, ↓e_X9_plan_24, ↓e_X9_plan_36, ↓e_X9_plan_39, ↓e_X9_plan_43, ↓e_X9_plan_44, ↓e_X9_plan_48, ↓e_X9_plan_51, ↓e_X9_plan_58, ↓e_X9_plan_65, ↓e_X9_plan_66, ↓e_X9_plan_78, ↓e_X9_plan_91, ↓e_X9_plan_110, ↓e_X9_plan_118, ↓e_X9_plan_123, ↓e_X9_plan_132, ↓e_X9_plan_137, ↓e_X9_plan_145, ↓e_X9_plan_148, ↓e_X9_plan_152, ↓e_X9_plan_156, ↓e_X9_plan_162, ↓e_X9_plan_166, ↓e_X9_plan_174, ↓e_X9_plan_181, ↓e_X9_plan_188, ↓e_X9_plan_192, ↓e_X9_plan_197, ↓e_X9_plan_201, ↓e_X9_plan_202, ↓e_X9_plan_209, ↓e_X9_plan_214, ↓e_X9_plan_216, ↓e_X9_plan_223, ↓e_X9_plan_228, ↓e_X9_plan_230, ↓e_X9_plan_237, ↓e_X9_plan_241, ↓e_X9_plan_244, ↓e_X9_plan_246, ↓e_X9_plan_254, ↓e_X9_plan_267, ↓e_X9_plan_272, ↓e_X9_plan_280, ↓e_X9_plan_285, ↓e_X9_plan_290, ↓e_X9_plan_295, ↓e_X9_plan_298, v9 o9_129, m_in, hv, zps_s, bI_0, m_bad, zk_i, zk_r, zk_n, ↓reduceIte]
  have q1 : (nI a < (1 : Int32)) = False := eq_false (nI_nlt (b := 1) (by omega) (by omega))
  have q4 : ((4 : Int32) < nI a) = False := eq_false (nI_nlt (a := 4) (by omega) (by decide))
  rcases inL_c (x := m) 1 40 m_d1 m_d40 (by decide) (by decide) with ⟨hw, mm, m1, m2, rfl⟩ | ⟨hw, hw2⟩
  rotate_left
  · refine op_ref hI 0 (-2) (fun K => ?_) (fun z1 K hr e => ?_)
    · simp only [↓c_X8_plan, ↓e_X8_plan_0, ↓e_X8_plan_5, ↓e_X8_plan_10, ↓e_X8_plan_14, ↓e_X8_plan_17, ↓e_X8_plan_22, ↓e_X8_plan_27, ↓e_X8_plan_35, ↓e_X8_plan_36, ↓e_X8_plan_40, ↓e_X8_plan_43, ↓e_X8_plan_46, ↓e_X8_plan_49, ↓e_X8_plan_57, ↓e_X8_plan_58, ↓e_X8_plan_62, ↓e_X8_plan_66, ↓e_X8_plan_71, ↓e_X8_plan_76, ↓e_X8_plan_80, ↓e_X8_plan_83, ↓e_X8_plan_86, ↓e_X8_plan_90, ↓e_X8_plan_93, ↓e_X8_plan_95, q1, q4, x_isMinutes, hw, v8 o8_0, Nat.reduceAdd, x_bad, zps_s, bI_0, zk_i, zk_r, zk_n, ↓reduceIte]
    · simp only [↓c_X9_plan, ↓e_X9_plan_0, ↓e_X9_plan_9, ↓e_X9_plan_12, ↓e_X9_plan_21, ↓e_X9_plan_24, ↓e_X9_plan_36, ↓e_X9_plan_39, ↓e_X9_plan_43, ↓e_X9_plan_44, ↓e_X9_plan_48, ↓e_X9_plan_51, ↓e_X9_plan_58, ↓e_X9_plan_65, ↓e_X9_plan_66, ↓e_X9_plan_78, ↓e_X9_plan_91, ↓e_X9_plan_110, ↓e_X9_plan_118, ↓e_X9_plan_123, ↓e_X9_plan_132, ↓e_X9_plan_137, ↓e_X9_plan_145, ↓e_X9_plan_148, ↓e_X9_plan_152, ↓e_X9_plan_156, ↓e_X9_plan_162, ↓e_X9_plan_166, ↓e_X9_plan_174, ↓e_X9_plan_181, ↓e_X9_plan_188, ↓e_X9_plan_192, ↓e_X9_plan_197, ↓e_X9_plan_201, ↓e_X9_plan_202, ↓e_X9_plan_209, ↓e_X9_plan_214, ↓e_X9_plan_216, ↓e_X9_plan_223, ↓e_X9_plan_228, ↓e_X9_plan_230, ↓e_X9_plan_237, ↓e_X9_plan_241, ↓e_X9_plan_244, ↓e_X9_plan_246, ↓e_X9_plan_254, ↓e_X9_plan_267, ↓e_X9_plan_272, ↓e_X9_plan_280, ↓e_X9_plan_285, ↓e_X9_plan_290, ↓e_X9_plan_295, ↓e_X9_plan_298, v9 o9_129, m_in, hv, hw, zps_s, bI_0, m_bad, zk_i, zk_r, zk_n, reduceCtorEq, ↓reduceIte]
  by_cases hi : i = -1 ∨ ∃ j, j < a ∧ i = nI j
  rotate_left
  · have out : inL i.toInt64 (-1) (nI a - 1).toInt64 = false ∧ (i < -1 ∨ ¬ i < nI a) := by
      have key : inL i.toInt64 (-1) (nI a - 1).toInt64 = true ↔ (-1 : Int) ≤ i.toInt ∧ i.toInt ≤ (a : Int) - 1 := by
        rw [inL_t, Int32.toInt_toInt64, Int32.toInt_toInt64, nI_m1 (by omega)]
        exact Iff.rfl
      have no : ¬ ((-1 : Int) ≤ i.toInt ∧ i.toInt ≤ (a : Int) - 1) := fun q => hi (by
        by_cases e : i.toInt = -1
        · left
          rw [iI_toI i, e]
          decide
        · right
          refine ⟨i.toInt.toNat, by omega, ?_⟩
          rw [iI_n, Int.toNat_of_nonneg (by omega)]
          exact iI_toI i)
      refine ⟨?_, ?_⟩
      · cases hb : inL i.toInt64 (-1) (nI a - 1).toInt64 with
        | false => rfl
        | true => exact absurd (key.mp hb) no
      · rw [Int32.lt_iff_toInt_lt, Int32.lt_iff_toInt_lt, nI_toInt (by omega), show (-1 : Int32).toInt = -1 from rfl]
        omega
    refine op_ref hI 0 (-2) (fun K => ?_) (fun z1 K hr e => ?_)
    · by_cases q : i < -1
      · simp only [↓c_X8_plan, ↓e_X8_plan_0, ↓e_X8_plan_5, ↓e_X8_plan_10, ↓e_X8_plan_14, ↓e_X8_plan_17, ↓e_X8_plan_22, ↓e_X8_plan_27, ↓e_X8_plan_35, ↓e_X8_plan_36, ↓e_X8_plan_40, ↓e_X8_plan_43, ↓e_X8_plan_46, ↓e_X8_plan_49, ↓e_X8_plan_57, ↓e_X8_plan_58, ↓e_X8_plan_62, ↓e_X8_plan_66, ↓e_X8_plan_71, ↓e_X8_plan_76, ↓e_X8_plan_80, ↓e_X8_plan_83, ↓e_X8_plan_86, ↓e_X8_plan_90, ↓e_X8_plan_93, ↓e_X8_plan_95, q1, q4, x_isMinutes, hw, q, v8 o8_0, Nat.reduceAdd, x_bad, zps_s, bI_0, zk_i, zk_r, zk_n, reduceCtorEq, ↓reduceIte]
      · have q' := out.2.resolve_left q
        simp only [↓c_X8_plan, ↓e_X8_plan_0, ↓e_X8_plan_5, ↓e_X8_plan_10, ↓e_X8_plan_14, ↓e_X8_plan_17, ↓e_X8_plan_22, ↓e_X8_plan_27, ↓e_X8_plan_35, ↓e_X8_plan_36, ↓e_X8_plan_40, ↓e_X8_plan_43, ↓e_X8_plan_46, ↓e_X8_plan_49, ↓e_X8_plan_57, ↓e_X8_plan_58, ↓e_X8_plan_62, ↓e_X8_plan_66, ↓e_X8_plan_71, ↓e_X8_plan_76, ↓e_X8_plan_80, ↓e_X8_plan_83, ↓e_X8_plan_86, ↓e_X8_plan_90, ↓e_X8_plan_93, ↓e_X8_plan_95, q1, q4, x_isMinutes, hw, q, q', v8 o8_0, Nat.reduceAdd, x_bad, zps_s, bI_0, zk_i, zk_r, zk_n, reduceCtorEq, ↓reduceIte]
    · simp only [↓c_X9_plan, ↓e_X9_plan_0, ↓e_X9_plan_9, ↓e_X9_plan_12, ↓e_X9_plan_21, ↓e_X9_plan_24, ↓e_X9_plan_36, ↓e_X9_plan_39, ↓e_X9_plan_43, ↓e_X9_plan_44, ↓e_X9_plan_48, ↓e_X9_plan_51, ↓e_X9_plan_58, ↓e_X9_plan_65, ↓e_X9_plan_66, ↓e_X9_plan_78, ↓e_X9_plan_91, ↓e_X9_plan_110, ↓e_X9_plan_118, ↓e_X9_plan_123, ↓e_X9_plan_132, ↓e_X9_plan_137, ↓e_X9_plan_145, ↓e_X9_plan_148, ↓e_X9_plan_152, ↓e_X9_plan_156, ↓e_X9_plan_162, ↓e_X9_plan_166, ↓e_X9_plan_174, ↓e_X9_plan_181, ↓e_X9_plan_188, ↓e_X9_plan_192, ↓e_X9_plan_197, ↓e_X9_plan_201, ↓e_X9_plan_202, ↓e_X9_plan_209, ↓e_X9_plan_214, ↓e_X9_plan_216, ↓e_X9_plan_223, ↓e_X9_plan_228, ↓e_X9_plan_230, ↓e_X9_plan_237, ↓e_X9_plan_241, ↓e_X9_plan_244, ↓e_X9_plan_246, ↓e_X9_plan_254, ↓e_X9_plan_267, ↓e_X9_plan_272, ↓e_X9_plan_280, ↓e_X9_plan_285, ↓e_X9_plan_290, ↓e_X9_plan_295, ↓e_X9_plan_298, v9 o9_129, m_in, hv, hw, out.1, zps_s, bI_0, m_bad, zk_i, zk_r, zk_n, reduceCtorEq, ↓reduceIte]
  have c1 : (i < -1) = False := by
    rcases hi with rfl | ⟨j, hj, rfl⟩
    · decide
    · exact eq_false (fun q => by
        rw [Int32.lt_iff_toInt_lt, nI_toInt (by omega), show (-1 : Int32).toInt = -1 from rfl] at q
        omega)
  have c2 : (i < nI a) = True := by
    rcases hi with rfl | ⟨j, hj, rfl⟩
    · exact eq_true (by rw [Int32.lt_iff_toInt_lt, nI_toInt (by omega), show (-1 : Int32).toInt = -1 from rfl]; omega)
    · exact eq_true (nI_lt hj (by omega))
  have i3 : inL i.toInt64 (-1) (nI a - 1).toInt64 = true := by
    rw [inL_t, Int32.toInt_toInt64, Int32.toInt_toInt64, nI_m1 (by omega)]
    rcases hi with rfl | ⟨j, hj, rfl⟩
    · exact ⟨by decide, by show (-1 : Int) ≤ _; omega⟩
    · rw [nI_toInt (by omega)]
      exact ⟨by show (-1 : Int) ≤ _; omega, by omega⟩
  rcases Nat.eq_zero_or_pos ns with hz | hns
  · subst hz
    refine op_ref hI 1 (-3) (fun K => ?_) (fun z1 K hr e => ?_)
    · have e11 : z.1 2 11 = 0 := hc.2.2.1
      simp only [↓c_X8_plan, ↓e_X8_plan_0, ↓e_X8_plan_5, ↓e_X8_plan_10, ↓e_X8_plan_14, ↓e_X8_plan_17, ↓e_X8_plan_22, ↓e_X8_plan_27, ↓e_X8_plan_35, ↓e_X8_plan_36, ↓e_X8_plan_40, ↓e_X8_plan_43, ↓e_X8_plan_46, ↓e_X8_plan_49, ↓e_X8_plan_57, ↓e_X8_plan_58, ↓e_X8_plan_62, ↓e_X8_plan_66, ↓e_X8_plan_71, ↓e_X8_plan_76, ↓e_X8_plan_80, ↓e_X8_plan_83, ↓e_X8_plan_86, ↓e_X8_plan_90, ↓e_X8_plan_93, ↓e_X8_plan_95, q1, q4, x_isMinutes, hw, c1, c2, g8 o8_0, g7 o7_1, g6 o6_2, v8 o8_0, Nat.reduceAdd, e11, x_no, zps_s, bI_0, zk_i, zk_r, zk_n, reduceCtorEq, ↓reduceIte]
    · have e106 : z1.1 130 106 = 0 := by rw [hr 130 (by decide)]; exact hm.2.2.1
      simp only [↓c_X9_plan, ↓e_X9_plan_0, ↓e_X9_plan_9, ↓e_X9_plan_12, ↓e_X9_plan_21, ↓e_X9_plan_24, ↓e_X9_plan_36, ↓e_X9_plan_39, ↓e_X9_plan_43, ↓e_X9_plan_44, ↓e_X9_plan_48, ↓e_X9_plan_51, ↓e_X9_plan_58, ↓e_X9_plan_65, ↓e_X9_plan_66, ↓e_X9_plan_78, ↓e_X9_plan_91, ↓e_X9_plan_110, ↓e_X9_plan_118, ↓e_X9_plan_123, ↓e_X9_plan_132, ↓e_X9_plan_137, ↓e_X9_plan_145, ↓e_X9_plan_148, ↓e_X9_plan_152, ↓e_X9_plan_156, ↓e_X9_plan_162, ↓e_X9_plan_166, ↓e_X9_plan_174, ↓e_X9_plan_181, ↓e_X9_plan_188, ↓e_X9_plan_192, ↓e_X9_plan_197, ↓e_X9_plan_201, ↓e_X9_plan_202, ↓e_X9_plan_209, ↓e_X9_plan_214, ↓e_X9_plan_216, ↓e_X9_plan_223, ↓e_X9_plan_228, ↓e_X9_plan_230, ↓e_X9_plan_237, ↓e_X9_plan_241, ↓e_X9_plan_244, ↓e_X9_plan_246, ↓e_X9_plan_254, ↓e_X9_plan_267, ↓e_X9_plan_272, ↓e_X9_plan_280, ↓e_X9_plan_285, ↓e_X9_plan_290, ↓e_X9_plan_295, ↓e_X9_plan_298, g9 o9_129, v9 o9_129, Nat.reduceAdd, stL, m_in, hv, hw, i3, e106, m_r1, zps_s, bI_0, zk_i, zk_r, zk_n, reduceCtorEq, ↓reduceIte]
  · obtain ⟨r, z1, ⟨hr, ht, hf, o, pk, sp⟩, e1⟩ := Hr_use (x_pfind E (d + 1) h m2 a1 a2 hns)
    subst hr
    cases o with
    | none => exact absurd trivial (pk 0 (Nat.pow_pos hns))
    | some b =>
      obtain ⟨r2, z2, ⟨ht2, hf2, hr2⟩, e2⟩ := Hr_use (m_plan E (d + 6) (z0 := z1) h (hf 130 (by omega)) m1 m2 a1 a2 hns hi pk)
      subst hr2
      refine ⟨_, z1, z2, fun K => ?_, e2, Inv_keep (z := z) (fun r hr => by rw [hf2 r (by omega) (by omega), hf r (by omega)]) (by rw [ht2, ht]) (by rw [ht2, ht]) (by rw [ht2, ht]) hI⟩
      have zns : (nI ns = 0) = False := eq_false (nI_ne0 hns (by omega))
      rcases hi with rfl | ⟨j, hj, rfl⟩
      · simp only [↓c_X8_plan, ↓e_X8_plan_0, ↓e_X8_plan_5, ↓e_X8_plan_10, ↓e_X8_plan_14, ↓e_X8_plan_17, ↓e_X8_plan_22, ↓e_X8_plan_27, ↓e_X8_plan_35, ↓e_X8_plan_36, ↓e_X8_plan_40, ↓e_X8_plan_43, ↓e_X8_plan_46, ↓e_X8_plan_49, ↓e_X8_plan_57, ↓e_X8_plan_58, ↓e_X8_plan_62, ↓e_X8_plan_66, ↓e_X8_plan_71, ↓e_X8_plan_76, ↓e_X8_plan_80, ↓e_X8_plan_83, ↓e_X8_plan_86, ↓e_X8_plan_90, ↓e_X8_plan_93, ↓e_X8_plan_95, q1, q4, x_isMinutes, hw, c1, c2, g8 o8_0, g7 o7_1, g6 o6_2, g4 o4_45, v4 o4_45, Nat.reduceAdd, hc.2.2.1, zns, e1, sp.2.1, zps_s, zps_n, bI_0, zk_i, zk_r, zk_n, reduceCtorEq, ↓reduceIte]
      · have ne : (nI j = -1) = False := eq_false (fun e => by
          have := nI_pos (show j < 2 ^ 31 by omega)
          rw [e] at this
          exact this (by decide))
        simp only [↓c_X8_plan, ↓e_X8_plan_0, ↓e_X8_plan_5, ↓e_X8_plan_10, ↓e_X8_plan_14, ↓e_X8_plan_17, ↓e_X8_plan_22, ↓e_X8_plan_27, ↓e_X8_plan_35, ↓e_X8_plan_36, ↓e_X8_plan_40, ↓e_X8_plan_43, ↓e_X8_plan_46, ↓e_X8_plan_49, ↓e_X8_plan_57, ↓e_X8_plan_58, ↓e_X8_plan_62, ↓e_X8_plan_66, ↓e_X8_plan_71, ↓e_X8_plan_76, ↓e_X8_plan_80, ↓e_X8_plan_83, ↓e_X8_plan_86, ↓e_X8_plan_90, ↓e_X8_plan_93, ↓e_X8_plan_95, q1, q4, x_isMinutes, hw, c1, c2, ne, g8 o8_0, g7 o7_1, g6 o6_2, g4 o4_45, v4 o4_45, Nat.reduceAdd, hc.2.2.1, zns, e1, ri_k i46 (show j < 4 by omega) (by decide), sp.2.2.2 j hj, nI_cl (show j < 2 ^ 31 by omega), zps_s, zps_n, bI_0, zk_i, zk_r, zk_n, reduceCtorEq, ↓reduceIte]
