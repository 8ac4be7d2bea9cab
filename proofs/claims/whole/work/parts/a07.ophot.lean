/-! hot: both sides -/
theorem m_hotS (E : zE) (d : Nat) {z z0 : zS} {np nc ns nl ny ch ea : Nat} (h : RT z.1 1 0 np nc ns nl ny ch ea) (h0 : z0.1 130 = z.1 130) {c0 : Nat} (hc0 : c0 < nc) {pt : Int32} (hpt : pt = -1 ∨ (¬ pt = -1 ∧ inB pt (nI np) = true)) (Q : Option Value → zH → Prop) (hQ : ∀ (f : Nat → Nat → Int32) (o : Option Nat), (∀ r, r ≠ 129 → r ≠ 134 → r ≠ 135 → r ≠ 136 → f r = z0.1 r) → Pk (Vd nc np (lcrow z np ns ch) (nI c0) 0) (scd nc np (hotI z)) (nc ^ np) o → SM f nc np (fitI z) (fun j => chN z (dg nc np j) np) o → ∀ x y, Ev E (d + 4) zm_X9_hot 191 [some (.ref 129), some (.int (nI c0)), some (.int pt), some (.int (nI nc)), some (.int (nI (nc ^ np))), x, y] [] (HP (f, z0.2)) Q) : Cl E (d + 4) 198 [.ref 129, .int (nI c0), .int pt] (HP z0) Q := by
  obtain ⟨hc, hm, hn⟩ := rt_F h
  have n1 : np < 2 ^ 31 := by omega
  have n2 : nc < 2 ^ 31 := by omega
  have hr := hm
  rw [← h0] at hr
  obtain ⟨f0, hf0⟩ : ∃ g : Nat → Nat → Int32, g = set2 z0.1 129 14 0 := ⟨_, rfl⟩
  have r0 : ∀ r, r ≠ 129 → f0 r = z0.1 r := fun r hr => by rw [hf0, set2_a hr]
  have f130 : f0 130 = z.1 130 := by rw [r0 130 (by decide), h0]
  have lc := m_layClashes E (d + 1) (z := (f0, z0.2)) (np := np) (ns := ns) (ch := ch) hn.1 hn.2.2.1 hn.2.2.2.1 (by show f0 130 104 = _; rw [f130]; exact hm.1) (by show f0 130 106 = _; rw [f130]; exact hm.2.2.1) (by show f0 130 107 = _; rw [f130]; exact hm.2.2.2.1)
  obtain ⟨f1, hf1⟩ : ∃ g : Nat → Nat → Int32, g = setR f0 134 (itr (fun a g => upd g a (lcrow (f0, z0.2) np ns ch a)) np (f0 134)) := ⟨_, rfl⟩
  rw [show ((f0, z0.2) : zS).1 = f0 from rfl, show ((f0, z0.2) : zS).2 = z0.2 from rfl, ← hf1] at lc
  have r1 : ∀ r, r ≠ 134 → f1 r = f0 r := fun r hr => by rw [hf1, setR_n hr]
  have f134 : ∀ a, a < np → f1 134 a = lcrow z np ns ch a := fun a ha => by
    rw [hf1, setR_s, itr_updv (fun a => lcrow (f0, z0.2) np ns ch a), if_pos ha]
    unfold lcrow
    refine itr_congr np (fun b hb => ?_)
    rw [ccB_c (z' := z) f130]
  have start := m_hotL E d h hc0 (f1 := f1) (t := z0.2) (by rw [r1 130 (by decide), f130]) f134 pt Q (fun f x y hf hP => by
    obtain ⟨o, p1, p2⟩ := hP
    exact hQ f o (fun r h1 h2 h3 h4 => by rw [hf r h1 h3 h4, r1 r h2, r0 r h1]) p1 p2 x y) (nc ^ np) 0 f1 none none (by omega) (fun _ _ _ _ => rfl) ⟨none, Pk_0 _ _, by
    show f1 129 14 = 0
    rw [r1 129 (by decide), hf0, set2_s]⟩
  rw [nI_0] at start
  have hbc : inB (nI c0) (nI nc) = true := by rw [inB_nI (by omega) (by omega)]; exact decide_eq_true hc0
  rcases hpt with rfl | ⟨q1, q2⟩
  · simp only [↓c_X9_hot, ↓e_X9_hot_0, ↓e_X9_hot_5, ↓e_X9_hot_8, ↓e_X9_hot_13, ↓e_X9_hot_18, ↓e_X9_hot_21, ↓e_X9_hot_28, ↓e_X9_hot_29, ↓e_X9_hot_33, ↓e_X9_hot_36, ↓e_X9_hot_42, ↓e_X9_hot_46, ↓e_X9_hot_56, ↓e_X9_hot_59, ↓e_X9_hot_66, ↓e_X9_hot_69, ↓e_X9_hot_73, ↓e_X9_hot_80, ↓e_X9_hot_92, ↓e_X9_hot_95, ↓e_X9_hot_98, ↓e_X9_hot_104, ↓e_X9_hot_107, ↓e_X9_hot_111, ↓e_X9_hot_117, ↓e_X9_hot_120, ↓e_X9_hot_124, ↓e_X9_hot_125, ↓e_X9_hot_128, ↓e_X9_hot_137, ↓e_X9_hot_141, ↓e_X9_hot_147, ↓e_X9_hot_150, ↓e_X9_hot_156, ↓e_X9_hot_159, ↓e_X9_hot_165, ↓e_X9_hot_168, ↓e_X9_hot_174, ↓e_X9_hot_177, ↓e_X9_hot_185, ↓e_X9_hot_195, ↓e_X9_hot_198, ↓e_X9_hot_205, ↓e_X9_hot_208, ↓e_X9_hot_213, ↓e_X9_hot_217, ↓e_X9_hot_220, ↓e_X9_hot_224, ↓e_X9_hot_226, g9 o9_129, p9 o9_129, v9 o9_129, Nat.reduceAdd, stL, m_isChild E (d + 2) n2 (z := z0) hr.2.1, hbc, hr.2.1, ← hf0, lc, zps_s, zps_n, bI_0, zk_i, zk_r, zk_n, reduceCtorEq, ↓reduceIte]
    exact start
  · simp only [↓c_X9_hot, ↓e_X9_hot_0, ↓e_X9_hot_5, ↓e_X9_hot_8, ↓e_X9_hot_13, ↓e_X9_hot_18, ↓e_X9_hot_21, ↓e_X9_hot_28, ↓e_X9_hot_29, ↓e_X9_hot_33, ↓e_X9_hot_36, ↓e_X9_hot_42, ↓e_X9_hot_46, ↓e_X9_hot_56, ↓e_X9_hot_59, ↓e_X9_hot_66, ↓e_X9_hot_69, ↓e_X9_hot_73, ↓e_X9_hot_80, ↓e_X9_hot_92, ↓e_X9_hot_95, ↓e_X9_hot_98, ↓e_X9_hot_104, ↓e_X9_hot_107, ↓e_X9_hot_111, ↓e_X9_hot_117, ↓e_X9_hot_120, ↓e_X9_hot_124, ↓e_X9_hot_125, ↓e_X9_hot_128, ↓e_X9_hot_137, ↓e_X9_hot_141, ↓e_X9_hot_147, ↓e_X9_hot_150, ↓e_X9_hot_156, ↓e_X9_hot_159, ↓e_X9_hot_165, ↓e_X9_hot_168, ↓e_X9_hot_174, ↓e_X9_hot_177, ↓e_X9_hot_185, ↓e_X9_hot_195, ↓e_X9_hot_198, ↓e_X9_hot_205, ↓e_X9_hot_208, ↓e_X9_hot_213, ↓e_X9_hot_217, ↓e_X9_hot_220, ↓e_X9_hot_224, ↓e_X9_hot_226, g9 o9_129, p9 o9_129, v9 o9_129, Nat.reduceAdd, stL, m_isChild E (d + 2) n2 (z := z0) hr.2.1, m_isPart E (d + 2) n1 (z := z0) hr.1, hbc, q1, q2, hr.2.1, ← hf0, lc, zps_s, zps_n, bI_0, zk_i, zk_r, zk_n, reduceCtorEq, ↓reduceIte]
    exact start
theorem op_hot (E : zE) (d : Nat) {z : zS} (hI : Inv z) (c p : Int32) : OpI E (d + 10) 105 198 [.int c, .int p] z := by
  obtain ⟨⟨np, nc, ns, nl, ny, ch, ea, h⟩, -⟩ := id hI
  obtain ⟨hc, hm, hn⟩ := rt_F h
  have n1 : np < 2 ^ 31 := by omega
  have n2 : nc < 2 ^ 31 := by omega
  have i39 : isI 39 6 := rfl
  cases hbc : inB c (nI nc) with
  | false =>
    refine op_ref hI 0 (-10) (fun K => ?_) (fun z1 K hr e => ?_)
    · simp only [↓c_X8_hot, ↓e_X8_hot_0, ↓e_X8_hot_4, ↓e_X8_hot_7, ↓e_X8_hot_11, ↓e_X8_hot_14, ↓e_X8_hot_19, ↓e_X8_hot_23, ↓e_X8_hot_26, ↓e_X8_hot_30, ↓e_X8_hot_33, ↓e_X8_hot_41, ↓e_X8_hot_42, ↓e_X8_hot_46, ↓e_X8_hot_50, ↓e_X8_hot_54, ↓e_X8_hot_57, ↓e_X8_hot_65, ↓e_X8_hot_66, ↓e_X8_hot_71, ↓e_X8_hot_75, ↓e_X8_hot_79, ↓e_X8_hot_82, ↓e_X8_hot_85, ↓e_X8_hot_89, ↓e_X8_hot_92, ↓e_X8_hot_94, hbc, g8 o8_0, g7 o7_1, v6 o6_2, v8 o8_0, Nat.reduceAdd, s_hasChild o6_2, hc.2.1, zps_s, bI_0, x_bad, zk_i, zk_r, zk_n, ↓reduceIte]
    · simp only [↓c_X9_hot, ↓e_X9_hot_0, ↓e_X9_hot_5, ↓e_X9_hot_8, ↓e_X9_hot_13, ↓e_X9_hot_18, ↓e_X9_hot_21, ↓e_X9_hot_28, ↓e_X9_hot_29, ↓e_X9_hot_33, ↓e_X9_hot_36, ↓e_X9_hot_42, ↓e_X9_hot_46, ↓e_X9_hot_56, ↓e_X9_hot_59, ↓e_X9_hot_66, ↓e_X9_hot_69, ↓e_X9_hot_73, ↓e_X9_hot_80, ↓e_X9_hot_92, ↓e_X9_hot_95, ↓e_X9_hot_98, ↓e_X9_hot_104, ↓e_X9_hot_107, ↓e_X9_hot_111, ↓e_X9_hot_117, ↓e_X9_hot_120, ↓e_X9_hot_124, ↓e_X9_hot_125, ↓e_X9_hot_128, ↓e_X9_hot_137, ↓e_X9_hot_141, ↓e_X9_hot_147, ↓e_X9_hot_150, ↓e_X9_hot_156, ↓e_X9_hot_159, ↓e_X9_hot_165, ↓e_X9_hot_168, ↓e_X9_hot_174, ↓e_X9_hot_177, ↓e_X9_hot_185, ↓e_X9_hot_191, ↓e_X9_hot_195, ↓e_X9_hot_198, ↓e_X9_hot_205, ↓e_X9_hot_208, ↓e_X9_hot_213, ↓e_X9_hot_217, ↓e_X9_hot_220, ↓e_X9_hot_224, ↓e_X9_hot_226, hbc, v9 o9_129, m_isChild E (d + 8) n2 (show z1.1 130 105 = nI nc by rw [hr 130 (by decide)]; exact hm.2.1), zps_s, bI_0, m_r0, zk_i, zk_r, zk_n, ↓reduceIte]
  | true =>
    obtain ⟨c0, hc0, rfl⟩ := of_inB rfl n2 hbc
    by_cases hbad : ¬ p = -1 ∧ inB p (nI np) = false
    · refine op_ref hI 0 (-10) (fun K => ?_) (fun z1 K hr e => ?_)
      · simp only [↓c_X8_hot, ↓e_X8_hot_0, ↓e_X8_hot_4, ↓e_X8_hot_7, ↓e_X8_hot_11, ↓e_X8_hot_14, ↓e_X8_hot_19, ↓e_X8_hot_23, ↓e_X8_hot_26, ↓e_X8_hot_30, ↓e_X8_hot_33, ↓e_X8_hot_41, ↓e_X8_hot_42, ↓e_X8_hot_46, ↓e_X8_hot_50, ↓e_X8_hot_54, ↓e_X8_hot_57, ↓e_X8_hot_65, ↓e_X8_hot_66, ↓e_X8_hot_71, ↓e_X8_hot_75, ↓e_X8_hot_79, ↓e_X8_hot_82, ↓e_X8_hot_85, ↓e_X8_hot_89, ↓e_X8_hot_92, ↓e_X8_hot_94, hbc, hbad.1, hbad.2, g8 o8_0, g7 o7_1, v6 o6_2, v8 o8_0, Nat.reduceAdd, s_hasPart o6_2, s_hasChild o6_2, hc.1, hc.2.1, zps_s, bI_0, x_bad, zk_i, zk_r, zk_n, reduceCtorEq, ↓reduceIte]
      · simp only [↓c_X9_hot, ↓e_X9_hot_0, ↓e_X9_hot_5, ↓e_X9_hot_8, ↓e_X9_hot_13, ↓e_X9_hot_18, ↓e_X9_hot_21, ↓e_X9_hot_28, ↓e_X9_hot_29, ↓e_X9_hot_33, ↓e_X9_hot_36, ↓e_X9_hot_42, ↓e_X9_hot_46, ↓e_X9_hot_56, ↓e_X9_hot_59, ↓e_X9_hot_66, ↓e_X9_hot_69, ↓e_X9_hot_73, ↓e_X9_hot_80, ↓e_X9_hot_92, ↓e_X9_hot_95, ↓e_X9_hot_98, ↓e_X9_hot_104, ↓e_X9_hot_107, ↓e_X9_hot_111, ↓e_X9_hot_117, ↓e_X9_hot_120, ↓e_X9_hot_124, ↓e_X9_hot_125, ↓e_X9_hot_128, ↓e_X9_hot_137, ↓e_X9_hot_141, ↓e_X9_hot_147, ↓e_X9_hot_150, ↓e_X9_hot_156, ↓e_X9_hot_159, ↓e_X9_hot_165, ↓e_X9_hot_168, ↓e_X9_hot_174, ↓e_X9_hot_177, ↓e_X9_hot_185, ↓e_X9_hot_191, ↓e_X9_hot_195, ↓e_X9_hot_198, ↓e_X9_hot_205, ↓e_X9_hot_208, ↓e_X9_hot_213, ↓e_X9_hot_217, ↓e_X9_hot_220, ↓e_X9_hot_224, ↓e_X9_hot_226, hbc, hbad.1, hbad.2, v9 o9_129, m_isChild E (d + 8) n2 (show z1.1 130 105 = nI nc by rw [hr 130 (by decide)]; exact hm.2.1), m_isPart E (d + 8) n1 (show z1.1 130 104 = nI np by rw [hr 130 (by decide)]; exact hm.1), zps_s, bI_0, m_r0, zk_i, zk_r, zk_n, reduceCtorEq, ↓reduceIte]
    · have hp : p = -1 ∨ (¬ p = -1 ∧ inB p (nI np) = true) := by
        by_cases e : p = -1
        · exact Or.inl e
        · refine Or.inr ⟨e, ?_⟩
          cases hb : inB p (nI np) with
          | true => rfl
          | false => exact absurd ⟨e, hb⟩ hbad
      obtain ⟨r, z1, ⟨o, hr, ht, hf, pk, sr⟩, e1⟩ := Hr_use (x_findWithout E d h (nI c0))
      subst hr
      have z1130 : z1.1 130 = z.1 130 := hf 130 (by omega)
      cases o with
      | none =>
        have ebI : bI (none : Option Nat).isSome = 0 := rfl
        rw [ebI] at e1
        have href := Cl_det (m_hotS E (d + 6) (z0 := (set2 z1.1 23 1 (z1.1 23 1 + 1), z1.2)) h (by show set2 z1.1 23 1 (z1.1 23 1 + 1) 130 = _; rw [set2_a (by decide)]; exact z1130) hc0 hp (fun r h => ∃ f : Nat → Nat → Int32, (∀ r, r ≠ 129 → r ≠ 134 → r ≠ 135 → r ≠ 136 → f r = set2 z1.1 23 1 (z1.1 23 1 + 1) r) ∧ r = some (.int (-20)) ∧ h = HP (set2 f 132 1 (f 132 1 + 1), z1.2)) (fun f o hf pk2 sm x y => by
          have eo := Pk_uniq pk pk2
          subst eo
          have e14 : f 129 14 = 0 := sm
          rw [e_X9_hot_191]
          simp only [↓e_X9_hot_5, ↓e_X9_hot_8, ↓e_X9_hot_13, ↓e_X9_hot_18, ↓e_X9_hot_21, ↓e_X9_hot_28, ↓e_X9_hot_29, ↓e_X9_hot_33, ↓e_X9_hot_36, ↓e_X9_hot_42, ↓e_X9_hot_46, ↓e_X9_hot_56, ↓e_X9_hot_59, ↓e_X9_hot_66, ↓e_X9_hot_69, ↓e_X9_hot_73, ↓e_X9_hot_80, ↓e_X9_hot_92, ↓e_X9_hot_95, ↓e_X9_hot_98, ↓e_X9_hot_104, ↓e_X9_hot_107, ↓e_X9_hot_111, ↓e_X9_hot_117, ↓e_X9_hot_120, ↓e_X9_hot_124, ↓e_X9_hot_125, ↓e_X9_hot_128, ↓e_X9_hot_137, ↓e_X9_hot_141, ↓e_X9_hot_147, ↓e_X9_hot_150, ↓e_X9_hot_156, ↓e_X9_hot_159, ↓e_X9_hot_165, ↓e_X9_hot_168, ↓e_X9_hot_174, ↓e_X9_hot_177, ↓e_X9_hot_185, ↓e_X9_hot_195, ↓e_X9_hot_198, ↓e_X9_hot_205, ↓e_X9_hot_208, ↓e_X9_hot_213, ↓e_X9_hot_217, ↓e_X9_hot_220, ↓e_X9_hot_224, ↓e_X9_hot_226, g9 o9_129, v9 o9_129, Nat.reduceAdd, e14, m_r1, zps_s, zk_i, zk_r, zk_n, ↓reduceIte]
          exact ⟨f, hf, trivial, rfl⟩))
        obtain ⟨r3, h3, ⟨f, hf2, er, eh⟩, e3⟩ := href
        subst er
        refine ⟨-20, (set2 z1.1 23 1 (z1.1 23 1 + 1), z1.2), (set2 f 132 1 (f 132 1 + 1), z1.2), fun K => ?_, fun K => by rw [e3, eh], ?_⟩
        · rcases hp with rfl | ⟨q1, q2⟩
          · simp only [↓c_X8_hot, ↓e_X8_hot_0, ↓e_X8_hot_4, ↓e_X8_hot_7, ↓e_X8_hot_11, ↓e_X8_hot_14, ↓e_X8_hot_19, ↓e_X8_hot_23, ↓e_X8_hot_26, ↓e_X8_hot_30, ↓e_X8_hot_33, ↓e_X8_hot_41, ↓e_X8_hot_42, ↓e_X8_hot_46, ↓e_X8_hot_50, ↓e_X8_hot_54, ↓e_X8_hot_57, ↓e_X8_hot_65, ↓e_X8_hot_66, ↓e_X8_hot_71, ↓e_X8_hot_75, ↓e_X8_hot_79, ↓e_X8_hot_82, ↓e_X8_hot_85, ↓e_X8_hot_89, ↓e_X8_hot_92, ↓e_X8_hot_94, hbc, g8 o8_0, g7 o7_1, v6 o6_2, v8 o8_0, v0 o0_38, Nat.reduceAdd, s_hasChild o6_2, hc.2.1, e1, x_no, zps_s, bI_0, zk_i, zk_r, zk_n, reduceCtorEq, ↓reduceIte]
          · simp only [↓c_X8_hot, ↓e_X8_hot_0, ↓e_X8_hot_4, ↓e_X8_hot_7, ↓e_X8_hot_11, ↓e_X8_hot_14, ↓e_X8_hot_19, ↓e_X8_hot_23, ↓e_X8_hot_26, ↓e_X8_hot_30, ↓e_X8_hot_33, ↓e_X8_hot_41, ↓e_X8_hot_42, ↓e_X8_hot_46, ↓e_X8_hot_50, ↓e_X8_hot_54, ↓e_X8_hot_57, ↓e_X8_hot_65, ↓e_X8_hot_66, ↓e_X8_hot_71, ↓e_X8_hot_75, ↓e_X8_hot_79, ↓e_X8_hot_82, ↓e_X8_hot_85, ↓e_X8_hot_89, ↓e_X8_hot_92, ↓e_X8_hot_94, hbc, q1, q2, g8 o8_0, g7 o7_1, v6 o6_2, v8 o8_0, v0 o0_38, Nat.reduceAdd, s_hasPart o6_2, s_hasChild o6_2, hc.1, hc.2.1, e1, x_no, zps_s, bI_0, zk_i, zk_r, zk_n, reduceCtorEq, ↓reduceIte]
        · refine Inv_ref3 hI 1 (fun r hr h2 h3 => ?_) ?_ ?_ ?_
          · dsimp only
            rw [set2_a h3, hf2 r (by omega) (by omega) (by omega) (by omega), set2_a h2, hf r (by omega)]
          · dsimp only
            rw [set2_a (by decide), hf2 23 (by decide) (by decide) (by decide) (by decide), set2_R, setR_s, hf 23 (by omega)]
          · dsimp only
            rw [set2_R, setR_s, hf2 132 (by decide) (by decide) (by decide) (by decide), set2_a (by decide), hf 132 (by omega)]
          · show z1.2.1 = z.2.1
            rw [ht]
      | some j =>
        have ebI : bI (some j : Option Nat).isSome = 1 := rfl
        rw [ebI] at e1
        have keep : ∀ f : Nat → Nat → Int32, (∀ r, r ≠ 129 → r ≠ 134 → r ≠ 135 → r ≠ 136 → f r = z1.1 r) → Inv (f, z1.2) := fun f hf2 => Inv_keep (z := z) (fun r hr => by show f r = z.1 r; rw [hf2 r (by omega) (by omega) (by omega) (by omega), hf r (by omega)]) (by show z1.2.1 22 = _; rw [ht]) (by show z1.2.1 129 17 = _; rw [ht]) (by show z1.2.1 129 18 = _; rw [ht]) hI
        rcases hp with rfl | ⟨q1, q2⟩
        · obtain ⟨r3, h3, ⟨f, hf2, er, eh⟩, e3⟩ := Cl_det (m_hotS E (d + 6) (z0 := z1) h z1130 hc0 (Or.inl rfl) (fun r h => ∃ f : Nat → Nat → Int32, (∀ r, r ≠ 129 → r ≠ 134 → r ≠ 135 → r ≠ 136 → f r = z1.1 r) ∧ r = some (.int (nI (chN z (dg nc np j) np))) ∧ h = HP (f, z1.2)) (fun f o hf pk2 sm x y => by
            have eo := Pk_uniq pk pk2
            subst eo
            have e14 : f 129 14 = 1 := sm.1
            have e13 : f 129 13 = nI (chN z (dg nc np j) np) := sm.2.2.1
            rw [e_X9_hot_191]
            simp only [↓e_X9_hot_5, ↓e_X9_hot_8, ↓e_X9_hot_13, ↓e_X9_hot_18, ↓e_X9_hot_21, ↓e_X9_hot_28, ↓e_X9_hot_29, ↓e_X9_hot_33, ↓e_X9_hot_36, ↓e_X9_hot_42, ↓e_X9_hot_46, ↓e_X9_hot_56, ↓e_X9_hot_59, ↓e_X9_hot_66, ↓e_X9_hot_69, ↓e_X9_hot_73, ↓e_X9_hot_80, ↓e_X9_hot_92, ↓e_X9_hot_95, ↓e_X9_hot_98, ↓e_X9_hot_104, ↓e_X9_hot_107, ↓e_X9_hot_111, ↓e_X9_hot_117, ↓e_X9_hot_120, ↓e_X9_hot_124, ↓e_X9_hot_125, ↓e_X9_hot_128, ↓e_X9_hot_137, ↓e_X9_hot_141, ↓e_X9_hot_147, ↓e_X9_hot_150, ↓e_X9_hot_156, ↓e_X9_hot_159, ↓e_X9_hot_165, ↓e_X9_hot_168, ↓e_X9_hot_174, ↓e_X9_hot_177, ↓e_X9_hot_185, ↓e_X9_hot_195, ↓e_X9_hot_198, ↓e_X9_hot_205, ↓e_X9_hot_208, ↓e_X9_hot_213, ↓e_X9_hot_217, ↓e_X9_hot_220, ↓e_X9_hot_224, ↓e_X9_hot_226, g9 o9_129, v9 o9_129, Nat.reduceAdd, e14, e13, i01, zps_s, zk_i, zk_r, zk_n, ↓reduceIte]
            exact ⟨f, hf, trivial, rfl⟩))
          subst er
          refine ⟨nI (chN z (dg nc np j) np), z1, (f, z1.2), fun K => ?_, fun K => by rw [e3, eh], keep f hf2⟩
          have ech := x_changes E (d + 9) h (z' := z1) (fun r hr => hf r (by omega)) (D := dg nc np j) sr.2.2
          simp only [↓c_X8_hot, ↓e_X8_hot_0, ↓e_X8_hot_4, ↓e_X8_hot_7, ↓e_X8_hot_11, ↓e_X8_hot_14, ↓e_X8_hot_19, ↓e_X8_hot_23, ↓e_X8_hot_26, ↓e_X8_hot_30, ↓e_X8_hot_33, ↓e_X8_hot_41, ↓e_X8_hot_42, ↓e_X8_hot_46, ↓e_X8_hot_50, ↓e_X8_hot_54, ↓e_X8_hot_57, ↓e_X8_hot_65, ↓e_X8_hot_66, ↓e_X8_hot_71, ↓e_X8_hot_75, ↓e_X8_hot_79, ↓e_X8_hot_82, ↓e_X8_hot_85, ↓e_X8_hot_89, ↓e_X8_hot_92, ↓e_X8_hot_94, hbc, g8 o8_0, g7 o7_1, v6 o6_2, v0 o0_38, Nat.reduceAdd, s_hasChild o6_2, hc.2.1, e1, i01, ech, zps_s, bI_0, zk_i, zk_r, zk_n, reduceCtorEq, ↓reduceIte]
        · obtain ⟨i, hi, rfl⟩ := of_inB rfl n1 q2
          obtain ⟨r3, h3, ⟨f, hf2, er, eh⟩, e3⟩ := Cl_det (m_hotS E (d + 6) (z0 := z1) h z1130 hc0 (Or.inr ⟨q1, q2⟩) (fun r h => ∃ f : Nat → Nat → Int32, (∀ r, r ≠ 129 → r ≠ 134 → r ≠ 135 → r ≠ 136 → f r = z1.1 r) ∧ r = some (.int (nI (dg nc np j i))) ∧ h = HP (f, z1.2)) (fun f o hf pk2 sm x y => by
            have eo := Pk_uniq pk pk2
            subst eo
            have e14 : f 129 14 = 1 := sm.1
            rw [e_X9_hot_191]
            simp only [↓e_X9_hot_5, ↓e_X9_hot_8, ↓e_X9_hot_13, ↓e_X9_hot_18, ↓e_X9_hot_21, ↓e_X9_hot_28, ↓e_X9_hot_29, ↓e_X9_hot_33, ↓e_X9_hot_36, ↓e_X9_hot_42, ↓e_X9_hot_46, ↓e_X9_hot_56, ↓e_X9_hot_59, ↓e_X9_hot_66, ↓e_X9_hot_69, ↓e_X9_hot_73, ↓e_X9_hot_80, ↓e_X9_hot_92, ↓e_X9_hot_95, ↓e_X9_hot_98, ↓e_X9_hot_104, ↓e_X9_hot_107, ↓e_X9_hot_111, ↓e_X9_hot_117, ↓e_X9_hot_120, ↓e_X9_hot_124, ↓e_X9_hot_125, ↓e_X9_hot_128, ↓e_X9_hot_137, ↓e_X9_hot_141, ↓e_X9_hot_147, ↓e_X9_hot_150, ↓e_X9_hot_156, ↓e_X9_hot_159, ↓e_X9_hot_165, ↓e_X9_hot_168, ↓e_X9_hot_174, ↓e_X9_hot_177, ↓e_X9_hot_185, ↓e_X9_hot_195, ↓e_X9_hot_198, ↓e_X9_hot_205, ↓e_X9_hot_208, ↓e_X9_hot_213, ↓e_X9_hot_217, ↓e_X9_hot_220, ↓e_X9_hot_224, ↓e_X9_hot_226, q1, g9 o9_129, v9 o9_129, Nat.reduceAdd, e14, i01, ri_k i136 (show i < 6 by omega) (by decide), sm.2.2.2 i hi, zps_s, zk_i, zk_r, zk_n, ↓reduceIte]
            exact ⟨f, hf, trivial, rfl⟩))
          subst er
          refine ⟨nI (dg nc np j i), z1, (f, z1.2), fun K => ?_, fun K => by rw [e3, eh], keep f hf2⟩
          simp only [↓c_X8_hot, ↓e_X8_hot_0, ↓e_X8_hot_4, ↓e_X8_hot_7, ↓e_X8_hot_11, ↓e_X8_hot_14, ↓e_X8_hot_19, ↓e_X8_hot_23, ↓e_X8_hot_26, ↓e_X8_hot_30, ↓e_X8_hot_33, ↓e_X8_hot_41, ↓e_X8_hot_42, ↓e_X8_hot_46, ↓e_X8_hot_50, ↓e_X8_hot_54, ↓e_X8_hot_57, ↓e_X8_hot_65, ↓e_X8_hot_66, ↓e_X8_hot_71, ↓e_X8_hot_75, ↓e_X8_hot_79, ↓e_X8_hot_82, ↓e_X8_hot_85, ↓e_X8_hot_89, ↓e_X8_hot_92, ↓e_X8_hot_94, hbc, q1, q2, g8 o8_0, g7 o7_1, g0 o0_38, v6 o6_2, v0 o0_38, Nat.reduceAdd, s_hasPart o6_2, s_hasChild o6_2, hc.1, hc.2.1, e1, i01, ri_k i39 (show i < 6 by omega) (by decide), sr.2.2 i hi, zps_s, bI_0, zk_i, zk_r, zk_n, reduceCtorEq, ↓reduceIte]
