/-! more calls: year, count, status, sign, limb, leans, tried -/
theorem op_year (E : zE) (d : Nat) {z : zS} (hI : Inv z) (c : Int32) : OpI E (d + 2) 109 209 [.int c] z := by
  obtain ⟨⟨np, nc, ns, nl, ny, ch, ea, h⟩, -⟩ := id hI
  obtain ⟨hc, hm, hn⟩ := rt_F h
  rcases inL_c (x := c) 0 1 m_d0 m_d1 (by decide) (by decide) with ⟨hv, j, -, hj, rfl⟩ | ⟨hv, hv2⟩
  · have e1 : (nI j = 0) = (j = 0) := propext (nI_eq (b := 0) (by omega) (by decide))
    have e2 : (nI j = 1) = (j = 1) := propext (nI_eq (b := 1) (by omega) (by decide))
    have el : (nI ny < (10 : Int32)) = (ny < 10) := lt_lit (n := 10) (x := 10) (by decide) (by omega) (by decide)
    have ee : (nI ny = (10 : Int32)) = (ny = 10) := propext (nI_eq (b := 10) (by omega) (by decide))
    by_cases hf : ny < 10
    · have hne : ¬ ny = 10 := by omega
      have e110 : (110 : Int32) + nI ny = nI (110 + ny) := nI_add 110 ny
      have g1 : ∀ f : Nat → Nat → Int32, set2 f 19 ny (nI j) 1 10 = f 1 10 := fun f => set2_n (Or.inl (by decide))
      have g2 : ∀ f : Nat → Nat → Int32, set2 f 1 10 (nI (ny + 1)) 1 10 = nI (ny + 1) := fun f => set2_s _ _ _ _
      have g3 : ∀ f : Nat → Nat → Int32, set2 f 130 (110 + ny) (nI j) 130 109 = f 130 109 := fun f => set2_n (Or.inr (by omega))
      have g4 : set2 (set2 z.1 19 ny (nI j)) 1 10 (nI (ny + 1)) 130 109 = nI ny := by rw [set2_a (by decide), set2_a (by decide)]; exact hm.2.2.2.2.2.2
      refine ⟨nI (ny + 1), (set2 (set2 z.1 19 ny (nI j)) 1 10 (nI (ny + 1)), z.2), (set2 (set2 (set2 (set2 z.1 19 ny (nI j)) 1 10 (nI (ny + 1))) 130 (110 + ny) (nI j)) 130 109 (nI (ny + 1)), z.2), fun K => ?_, fun K => ?_, ?_⟩
      · obtain rfl | rfl : j = 0 ∨ j = 1 := by omega
        · simp only [↓c_X8_year, ↓e_X8_year_0, ↓e_X8_year_4, ↓e_X8_year_9, ↓e_X8_year_17, ↓e_X8_year_18, ↓e_X8_year_22, ↓e_X8_year_25, ↓e_X8_year_30, ↓e_X8_year_38, ↓e_X8_year_39, ↓e_X8_year_43, ↓e_X8_year_46, ↓e_X8_year_50, ↓e_X8_year_53, ↓e_X8_year_55, ↓e_X8_year_59, ↓e_X8_year_63, ↓e_X8_year_68, ↓e_X8_year_72, ↓e_X8_year_75, e1, e2, g8 o8_0, g7 o7_1, p7 o7_1, Nat.reduceAdd, hc.2.2.2.2.2.2, el, hf, wi_k i19 hf (by decide), g1, g2, nI_1, zk_i, zk_r, zk_n, ↓reduceIte]
        · simp only [↓c_X8_year, ↓e_X8_year_0, ↓e_X8_year_4, ↓e_X8_year_9, ↓e_X8_year_17, ↓e_X8_year_18, ↓e_X8_year_22, ↓e_X8_year_25, ↓e_X8_year_30, ↓e_X8_year_38, ↓e_X8_year_39, ↓e_X8_year_43, ↓e_X8_year_46, ↓e_X8_year_50, ↓e_X8_year_53, ↓e_X8_year_55, ↓e_X8_year_59, ↓e_X8_year_63, ↓e_X8_year_68, ↓e_X8_year_72, ↓e_X8_year_75, e1, e2, g8 o8_0, g7 o7_1, p7 o7_1, Nat.reduceAdd, hc.2.2.2.2.2.2, el, hf, wi_k i19 hf (by decide), g1, g2, nI_1, zk_i, zk_r, zk_n, Nat.one_ne_zero, ↓reduceIte]
      · simp only [↓c_X9_year, ↓e_X9_year_0, ↓e_X9_year_7, ↓e_X9_year_10, ↓e_X9_year_14, ↓e_X9_year_15, ↓e_X9_year_19, ↓e_X9_year_22, ↓e_X9_year_27, ↓e_X9_year_34, ↓e_X9_year_35, ↓e_X9_year_39, ↓e_X9_year_45, ↓e_X9_year_48, ↓e_X9_year_51, ↓e_X9_year_55, ↓e_X9_year_59, ↓e_X9_year_62, ↓e_X9_year_66, ↓e_X9_year_69, m_in, hv, zps_s, bI_0, g9 o9_129, Nat.reduceAdd, stL, w109, g3, g4, ee, hne, e110, wi_k i130 (show 110 + ny < 1083 by omega) (by decide), set2_s, nI_1, zk_i, zk_r, zk_n, reduceCtorEq, ↓reduceIte]
      · refine Inv_upd (z := z) ⟨np, nc, ns, nl, ny + 1, ch, ea, ?_⟩ (fun r hr => ?_) (fun k hk => ?_) rfl rfl rfl hI
        · obtain ⟨h0, hP, hC, hN, hB, hY⟩ := h
          have eA : ∀ j' i, (j' ≠ 0 ∨ i ≠ 10) → (j' ≠ 18 ∨ i ≠ ny) → j' ≤ 18 → set2 (set2 (set2 (set2 z.1 19 ny (nI j)) 1 10 (nI (ny + 1))) 130 (110 + ny) (nI j)) 130 109 (nI (ny + 1)) (j' + 1) i = z.1 (j' + 1) i := fun j' i h1 h2 h3 => by rw [set2_n (Or.inl (by omega)), set2_n (Or.inl (by omega)), set2_n (by omega), set2_n (by omega)]
          have eS : ∀ k, k ≠ 110 + ny → k ≠ 109 → set2 (set2 (set2 (set2 z.1 19 ny (nI j)) 1 10 (nI (ny + 1))) 130 (110 + ny) (nI j)) 130 109 (nI (ny + 1)) 130 (k + 0) = z.1 130 (k + 0) := fun k h1 h2 => by rw [set2_n (Or.inr (by omega)), set2_n (Or.inr (by omega)), set2_n (Or.inl (by omega)), set2_n (Or.inl (by omega))]
          refine ⟨?_, fun p hp => rP_c (fun j hj => eA j p (by omega) (by omega) (by omega)) (fun k hk => eS k (by omega) (by omega)) (by omega) (hP p hp), fun c hc => rC_c (fun j i hj => eA j i (by omega) (by omega) (by omega)) (fun k _ hk => eS k (by omega) (by omega)) (by omega) (hC c hc), fun i hi => rN_c (fun j hj => eA j i (by omega) (by omega) (by omega)) (fun k _ hk => eS k (by omega) (by omega)) (by omega) (hN i hi), fun i hi => rB_c (eA 17 i (by omega) (by omega) (by omega)) (eS _ (by omega) (by omega)) (hB i (by omega)), fun i hi => ?_⟩
          · unfold rF
            dsimp only
            rw [eA 1 0 (by omega) (by omega) (by omega), eA 1 4 (by omega) (by omega) (by omega), eA 1 11 (by omega) (by omega) (by omega), eA 0 5 (by omega) (by omega) (by omega), eA 0 6 (by omega) (by omega) (by omega), eA 0 8 (by omega) (by omega) (by omega), eS 104 (by omega) (by omega), eS 105 (by omega) (by omega), eS 106 (by omega) (by omega), eS 107 (by omega) (by omega), eS 108 (by omega) (by omega), eS 120 (by omega) (by omega)]
            refine ⟨⟨hc.1, hc.2.1, hc.2.2.1, hc.2.2.2.1, hc.2.2.2.2.1, hc.2.2.2.2.2.1, ?_⟩, ⟨hm.1, hm.2.1, hm.2.2.1, hm.2.2.2.1, hm.2.2.2.2.1, hm.2.2.2.2.2.1, ?_⟩, hn.1, hn.2.1, hn.2.2.1, hn.2.2.2.1, hn.2.2.2.2.1, hn.2.2.2.2.2.1, by omega⟩
            · rw [set2_n (Or.inl (by decide)), set2_n (Or.inl (by decide)), set2_s]
            · exact set2_s _ _ _ _
          · by_cases ei : i = ny
            · subst ei
              have a1 : set2 (set2 (set2 (set2 z.1 19 i (nI j)) 1 10 (nI (i + 1))) 130 (110 + i) (nI j)) 130 109 (nI (i + 1)) (18 + 1) i = nI j := by rw [set2_n (Or.inl (by decide)), set2_n (Or.inl (by decide)), set2_n (Or.inl (by decide)), set2_s]
              have a2 : set2 (set2 (set2 (set2 z.1 19 i (nI j)) 1 10 (nI (i + 1))) 130 (110 + i) (nI j)) 130 109 (nI (i + 1)) 130 (110 + i + 0) = nI j := by rw [set2_n (Or.inr (by omega))]; exact set2_s _ _ _ _
              unfold rY
              dsimp only
              rw [a1, a2]
              exact ⟨rfl, j, by omega, hj, rfl⟩
            · exact rY_c (eA 18 i (by omega) (by omega) (by omega)) (eS _ (by omega) (by omega)) (hY i (by omega))
        · show set2 (set2 (set2 (set2 z.1 19 ny (nI j)) 1 10 (nI (ny + 1))) 130 (110 + ny) (nI j)) 130 109 (nI (ny + 1)) r = z.1 r
          rw [set2_a (by omega), set2_a (by omega), set2_a (by omega), set2_a (by omega)]
        · show set2 (set2 (set2 (set2 z.1 19 ny (nI j)) 1 10 (nI (ny + 1))) 130 (110 + ny) (nI j)) 130 109 (nI (ny + 1)) 130 k = z.1 130 k
          rw [set2_n (Or.inr (by omega)), set2_n (Or.inr (by omega)), set2_n (Or.inl (by omega)), set2_n (Or.inl (by omega))]
    · have hne : (ny = 10) = True := eq_true (by omega)
      refine op_ref hI 2 (-4) (fun K => ?_) (fun z1 K hr e => ?_)
      · obtain rfl | rfl : j = 0 ∨ j = 1 := by omega
        · simp only [↓c_X8_year, ↓e_X8_year_0, ↓e_X8_year_4, ↓e_X8_year_9, ↓e_X8_year_17, ↓e_X8_year_18, ↓e_X8_year_22, ↓e_X8_year_25, ↓e_X8_year_30, ↓e_X8_year_38, ↓e_X8_year_39, ↓e_X8_year_43, ↓e_X8_year_46, ↓e_X8_year_50, ↓e_X8_year_53, ↓e_X8_year_55, ↓e_X8_year_59, ↓e_X8_year_63, ↓e_X8_year_68, ↓e_X8_year_72, ↓e_X8_year_75, e1, e2, g8 o8_0, g7 o7_1, v8 o8_0, Nat.reduceAdd, hc.2.2.2.2.2.2, el, hf, x_full, zps_s, zk_i, zk_r, zk_n, ↓reduceIte]
        · simp only [↓c_X8_year, ↓e_X8_year_0, ↓e_X8_year_4, ↓e_X8_year_9, ↓e_X8_year_17, ↓e_X8_year_18, ↓e_X8_year_22, ↓e_X8_year_25, ↓e_X8_year_30, ↓e_X8_year_38, ↓e_X8_year_39, ↓e_X8_year_43, ↓e_X8_year_46, ↓e_X8_year_50, ↓e_X8_year_53, ↓e_X8_year_55, ↓e_X8_year_59, ↓e_X8_year_63, ↓e_X8_year_68, ↓e_X8_year_72, ↓e_X8_year_75, e1, e2, g8 o8_0, g7 o7_1, v8 o8_0, Nat.reduceAdd, hc.2.2.2.2.2.2, el, hf, x_full, zps_s, zk_i, zk_r, zk_n, Nat.one_ne_zero, ↓reduceIte]
      · simp only [↓c_X9_year, ↓e_X9_year_0, ↓e_X9_year_7, ↓e_X9_year_10, ↓e_X9_year_14, ↓e_X9_year_15, ↓e_X9_year_19, ↓e_X9_year_22, ↓e_X9_year_27, ↓e_X9_year_34, ↓e_X9_year_35, ↓e_X9_year_39, ↓e_X9_year_45, ↓e_X9_year_48, ↓e_X9_year_51, ↓e_X9_year_55, ↓e_X9_year_59, ↓e_X9_year_62, ↓e_X9_year_66, ↓e_X9_year_69, m_in, hv, zps_s, bI_0, g9 o9_129, v9 o9_129, Nat.reduceAdd, stL, hr 130 (by decide), hm.2.2.2.2.2.2, ee, hne, m_r2, zk_i, zk_r, zk_n, reduceCtorEq, ↓reduceIte]
  · refine op_ref hI 0 (-2) (fun K => ?_) (fun z1 K hr e => ?_)
    · have q0 : (c = 0) = False := out_ne (k := 0) hv2 (by decide) (by decide) (by decide)
      have q1 : (c = 1) = False := out_ne (k := 1) hv2 (by decide) (by decide) (by decide)
      simp only [↓c_X8_year, ↓e_X8_year_0, ↓e_X8_year_4, ↓e_X8_year_9, ↓e_X8_year_17, ↓e_X8_year_18, ↓e_X8_year_22, ↓e_X8_year_25, ↓e_X8_year_30, ↓e_X8_year_38, ↓e_X8_year_39, ↓e_X8_year_43, ↓e_X8_year_46, ↓e_X8_year_50, ↓e_X8_year_53, ↓e_X8_year_55, ↓e_X8_year_59, ↓e_X8_year_63, ↓e_X8_year_68, ↓e_X8_year_72, ↓e_X8_year_75, q0, q1, v8 o8_0, Nat.reduceAdd, x_bad, zps_s, zk_i, zk_r, zk_n, ↓reduceIte]
    · simp only [↓c_X9_year, ↓e_X9_year_0, ↓e_X9_year_7, ↓e_X9_year_10, ↓e_X9_year_14, ↓e_X9_year_15, ↓e_X9_year_19, ↓e_X9_year_22, ↓e_X9_year_27, ↓e_X9_year_34, ↓e_X9_year_35, ↓e_X9_year_39, ↓e_X9_year_45, ↓e_X9_year_48, ↓e_X9_year_51, ↓e_X9_year_55, ↓e_X9_year_59, ↓e_X9_year_62, ↓e_X9_year_66, ↓e_X9_year_69, v9 o9_129, m_in, hv, zps_s, bI_0, m_bad, zk_i, zk_r, zk_n, ↓reduceIte]
theorem op_count (E : zE) (d : Nat) {z : zS} (hI : Inv z) (w : Int32) : OpI E (d + 2) 117 223 [.int w] z := by
  obtain ⟨⟨np, nc, ns, nl, ny, ch, ea, h⟩, -⟩ := id hI
  obtain ⟨hc, hm, hn⟩ := rt_F h
  rcases inL_c (x := w) 0 4 m_d0 m_d4 (by decide) (by decide) with ⟨hv, j, -, hj, rfl⟩ | ⟨hv, hv2⟩
  · refine ⟨coM z (nI j), z, z, fun K => ?_, fun K => ?_, hI⟩
    · obtain ⟨k0, k1, k2, k3, k4, -⟩ := kd_eq j (by omega)
      have e4 : (0 : Int32) + 1 = 1 ∧ (1 : Int32) + 1 = 2 ∧ (2 : Int32) + 1 = 3 ∧ (3 : Int32) + 1 = 4 := by decide
      obtain rfl | rfl | rfl | rfl | rfl : j = 0 ∨ j = 1 ∨ j = 2 ∨ j = 3 ∨ j = 4 := by omega
      all_goals simp only [↓c_X8_count, ↓e_X8_count_0, ↓e_X8_count_36, ↓e_X8_count_40, ↓e_X8_count_43, ↓e_X8_count_46, ↓e_X8_count_47, ↓e_X8_count_51, ↓e_X8_count_54, ↓e_X8_count_57, ↓e_X8_count_58, ↓e_X8_count_62, ↓e_X8_count_65, ↓e_X8_count_68, ↓e_X8_count_69, ↓e_X8_count_73, ↓e_X8_count_76, ↓e_X8_count_77, ↓e_X8_count_81, ↓e_X8_count_84, ↓e_X8_count_85, ↓e_X8_count_93, zsw, k0, k1, k2, k3, k4, e4.1, e4.2.1, e4.2.2.1, e4.2.2.2, coM, g8 o8_0, g7 o7_1, g6 o6_2, Nat.reduceAdd, hc.1, hc.2.1, hc.2.2.1, hc.2.2.2.2.2.1, hc.2.2.2.2.2.2, hm.1, hm.2.1, hm.2.2.1, hm.2.2.2.2.2.1, hm.2.2.2.2.2.2, Nat.reduceEqDiff, zk_i, zk_r, zk_n, Nat.one_ne_zero, ↓reduceIte]
    · simp only [↓c_X9_count, ↓e_X9_count_0, ↓e_X9_count_9, ↓e_X9_count_12, ↓e_X9_count_17, ↓e_X9_count_20, ↓e_X9_count_24, v9 o9_129, m_in, hv, zps_s, bI_0, m_countOf E (d + 1) (show j < 5 by omega), zk_i, zk_r, zk_n, reduceCtorEq, ↓reduceIte]
  · refine op_ref hI 0 (-2) (fun K => ?_) (fun z1 K hr e => ?_)
    · have q0 : (w = 0) = False := out_ne (k := 0) hv2 (by decide) (by decide) (by decide)
      have q1 : (w = 0 + 1) = False := out_ne (k := 1) hv2 (by decide) (by decide) (by decide)
      have q2 : (w = 0 + 1 + 1) = False := out_ne (k := 2) hv2 (by decide) (by decide) (by decide)
      have q3 : (w = 0 + 1 + 1 + 1) = False := out_ne (k := 3) hv2 (by decide) (by decide) (by decide)
      have q4 : (w = 0 + 1 + 1 + 1 + 1) = False := out_ne (k := 4) hv2 (by decide) (by decide) (by decide)
      simp only [↓c_X8_count, ↓e_X8_count_0, ↓e_X8_count_36, ↓e_X8_count_40, ↓e_X8_count_43, ↓e_X8_count_46, ↓e_X8_count_47, ↓e_X8_count_51, ↓e_X8_count_54, ↓e_X8_count_57, ↓e_X8_count_58, ↓e_X8_count_62, ↓e_X8_count_65, ↓e_X8_count_68, ↓e_X8_count_69, ↓e_X8_count_73, ↓e_X8_count_76, ↓e_X8_count_77, ↓e_X8_count_81, ↓e_X8_count_84, ↓e_X8_count_85, ↓e_X8_count_93, zsw, q0, q1, q2, q3, q4, v8 o8_0, Nat.reduceAdd, x_bad, zps_s, zk_i, zk_r, zk_n, ↓reduceIte]
    · simp only [↓c_X9_count, ↓e_X9_count_0, ↓e_X9_count_9, ↓e_X9_count_12, ↓e_X9_count_17, ↓e_X9_count_20, ↓e_X9_count_24, v9 o9_129, m_in, hv, zps_s, bI_0, m_bad, zk_i, zk_r, zk_n, ↓reduceIte]
theorem op_status (E : zE) (d : Nat) {z : zS} (hI : Inv z) (w : Int32) : OpI E (d + 1) 116 221 [.int w] z := by
  have hq := hI.2.2.2.1
  rcases inL_c (x := w) 0 2 m_d0 m_d2 (by decide) (by decide) with ⟨hv, j, -, hj, rfl⟩ | ⟨hv, hv2⟩
  · refine ⟨z.1 132 j, z, z, fun K => ?_, fun K => ?_, hI⟩
    · have e3 : nI j < nI 3 := nI_lt (by omega) (by decide)
      simp only [↓c_X8_status, ↓e_X8_status_0, ↓e_X8_status_4, ↓e_X8_status_9, ↓e_X8_status_10, ↓e_X8_status_13, ↓e_X8_status_20, ↓e_X8_status_21, ↓e_X8_status_25, ↓e_X8_status_27, g8 o8_0, Nat.reduceAdd, HP_al i23, nI_neg (show j < 2 ^ 31 by omega), e3, ri_k i23 (show j < 3 by omega) (by decide), hq j (by omega), zk_i, zk_r, zk_n, ↓reduceIte]
    · rw [m_status, if_pos hv, in_nI (show j < 3 by omega) (by decide), nI_cl (by omega)]
      exact propext ⟨fun q => q.2, fun q => ⟨trivial, q⟩⟩
  · refine op_ref hI 0 (-1) (fun K => ?_) (fun z1 K hr e => ?_)
    · by_cases q : w < 0
      · simp only [↓c_X8_status, ↓e_X8_status_0, ↓e_X8_status_4, ↓e_X8_status_9, ↓e_X8_status_10, ↓e_X8_status_13, ↓e_X8_status_20, ↓e_X8_status_21, ↓e_X8_status_25, ↓e_X8_status_27, q, v8 o8_0, Nat.reduceAdd, x_bad, zps_s, zk_i, zk_r, zk_n, ↓reduceIte]
      · have q2 : (w < nI 3) = False := eq_false (fun q3 => by
          have := hv2.resolve_left q
          rw [Int32.lt_iff_toInt_lt, nI_toInt (by decide)] at q3 this
          omega)
        simp only [↓c_X8_status, ↓e_X8_status_0, ↓e_X8_status_4, ↓e_X8_status_9, ↓e_X8_status_10, ↓e_X8_status_13, ↓e_X8_status_20, ↓e_X8_status_21, ↓e_X8_status_25, ↓e_X8_status_27, q, q2, g8 o8_0, v8 o8_0, Nat.reduceAdd, HP_al i23, x_bad, zps_s, zk_i, zk_r, zk_n, ↓reduceIte]
    · rw [m_status, if_neg (by rw [hv]; decide)]
theorem frc_of {z : zS} (hI : Inv z) : ∃ a b, Frc z a b := hI.2.2.2.2
theorem op_sign (E : zE) (d : Nat) {z : zS} (hI : Inv z) (w : Int32) : OpI E (d + 2) 112 216 [.int w] z := by
  obtain ⟨a, b, ha, hb, f0, f1, f2, f3⟩ := frc_of hI
  rcases inL_c (x := w) 0 2 m_d0 m_d2 (by decide) (by decide) with ⟨hv, j, -, hj, rfl⟩ | ⟨hv, hv2⟩
  · refine ⟨if j = 0 then (if 0 < a then 1 else 0) else if j = 1 then nI (lbN a) else nI (lbN b), z, z, fun K => ?_, fun K => ?_, hI⟩
    · obtain ⟨k0, k1, k2, -⟩ := kd_eq j (by omega)
      have e4 : (0 : Int32) + 1 = 1 ∧ (1 : Int32) + 1 = 2 := by decide
      have l0 := f_limbs o2_22 E d 0 (v := a) (by omega) (z := z) (by rw [if_pos rfl]; exact f0)
      have l1 := f_limbs o2_22 E d 1 (v := b) (by omega) (z := z) (by rw [if_neg (by decide)]; exact f1)
      obtain rfl | rfl | rfl : j = 0 ∨ j = 1 ∨ j = 2 := by omega
      · simp only [↓c_X8_sign, ↓e_X8_sign_0, ↓e_X8_sign_28, ↓e_X8_sign_32, ↓e_X8_sign_35, ↓e_X8_sign_40, ↓e_X8_sign_44, ↓e_X8_sign_45, ↓e_X8_sign_46, ↓e_X8_sign_50, ↓e_X8_sign_54, ↓e_X8_sign_55, ↓e_X8_sign_59, ↓e_X8_sign_63, ↓e_X8_sign_64, ↓e_X8_sign_72, zsw, k0, k1, k2, e4.1, e4.2, g8 o8_0, g2 o2_22, v2 o2_22, Nat.reduceAdd, f0, lN_pos (show a < 2 ^ 63 by omega), zps_s, zk_i, zk_r, zk_n, ↓reduceIte]
        by_cases q : 0 < a <;> simp only [q, ↓reduceIte]
      all_goals simp only [↓c_X8_sign, ↓e_X8_sign_0, ↓e_X8_sign_28, ↓e_X8_sign_32, ↓e_X8_sign_35, ↓e_X8_sign_40, ↓e_X8_sign_44, ↓e_X8_sign_45, ↓e_X8_sign_46, ↓e_X8_sign_50, ↓e_X8_sign_54, ↓e_X8_sign_55, ↓e_X8_sign_59, ↓e_X8_sign_63, ↓e_X8_sign_64, ↓e_X8_sign_72, zsw, k0, k1, k2, e4.1, e4.2, g8 o8_0, g2 o2_22, v2 o2_22, Nat.reduceAdd, l0, l1, zps_s, zk_i, zk_r, zk_n, Nat.reduceEqDiff, Nat.one_ne_zero, ↓reduceIte]
    · simp only [↓c_X9_sign, ↓e_X9_sign_0, ↓e_X9_sign_9, ↓e_X9_sign_12, ↓e_X9_sign_17, ↓e_X9_sign_20, ↓e_X9_sign_24, v9 o9_129, m_in, hv, zps_s, bI_0, m_signOf E d ha hb (show j < 3 by omega) f2 f3, zk_i, zk_r, zk_n, reduceCtorEq, ↓reduceIte]
  · refine op_ref hI 0 (-2) (fun K => ?_) (fun z1 K hr e => ?_)
    · have q0 : (w = 0) = False := out_ne (k := 0) hv2 (by decide) (by decide) (by decide)
      have q1 : (w = 0 + 1) = False := out_ne (k := 1) hv2 (by decide) (by decide) (by decide)
      have q2 : (w = 0 + 1 + 1) = False := out_ne (k := 2) hv2 (by decide) (by decide) (by decide)
      simp only [↓c_X8_sign, ↓e_X8_sign_0, ↓e_X8_sign_28, ↓e_X8_sign_32, ↓e_X8_sign_35, ↓e_X8_sign_40, ↓e_X8_sign_44, ↓e_X8_sign_45, ↓e_X8_sign_46, ↓e_X8_sign_50, ↓e_X8_sign_54, ↓e_X8_sign_55, ↓e_X8_sign_59, ↓e_X8_sign_63, ↓e_X8_sign_64, ↓e_X8_sign_72, zsw, q0, q1, q2, v8 o8_0, Nat.reduceAdd, x_bad, zps_s, zk_i, zk_r, zk_n, ↓reduceIte]
    · simp only [↓c_X9_sign, ↓e_X9_sign_0, ↓e_X9_sign_9, ↓e_X9_sign_12, ↓e_X9_sign_17, ↓e_X9_sign_20, ↓e_X9_sign_24, v9 o9_129, m_in, hv, zps_s, bI_0, m_bad, zk_i, zk_r, zk_n, ↓reduceIte]
