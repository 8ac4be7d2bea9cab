/-! calls that tell a number, or change one -/
theorem i14 : isI 14 6 := rfl
theorem i15 : isI 15 6 := rfl
theorem i16 : isI 16 6 := rfl
theorem i17 : isI 17 6 := rfl
theorem i18 : isI 18 240 := rfl
theorem i19 : isI 19 10 := rfl
theorem op_known (E : zE) (d : Nat) {z : zS} (hI : Inv z) (p : Int32) : OpI E (d + 2) 97 180 [.int p] z := by
  obtain ⟨⟨np, nc, ns, nl, ny, ch, ea, h⟩, -⟩ := id hI
  obtain ⟨hc, hm, hn⟩ := rt_F h
  by_cases hb : inB p (nI np) = true
  · obtain ⟨j, hj, rfl⟩ := of_inB rfl (by omega) hb
    refine ⟨z.1 130 (30 + j), z, z, fun K => ?_, fun K => ?_, hI⟩
    · simp only [↓c_X8_known, ↓e_X8_known_0, ↓e_X8_known_4, ↓e_X8_known_7, ↓e_X8_known_11, ↓e_X8_known_14, ↓e_X8_known_18, ↓e_X8_known_21, ↓e_X8_known_23, ↓e_X8_known_26, ↓e_X8_known_34, g8 o8_0, g7 o7_1, v6 o6_2, Nat.reduceAdd, s_hasPart o6_2, hc.1, hb, zps_s, bI_0, ri_k i16 (show j < 6 by omega) (by decide), (rt_P h hj).2.2.2.2.2.1, zk_i, zk_r, zk_n, reduceCtorEq, ↓reduceIte]
    · rw [m_known E d hn.1 hm.1, if_pos hb, nI_cl (by omega)]
  · refine op_ref hI 0 (-2) (fun K => ?_) (fun z1 K hr e => ?_)
    · simp only [↓c_X8_known, ↓e_X8_known_0, ↓e_X8_known_4, ↓e_X8_known_7, ↓e_X8_known_11, ↓e_X8_known_14, ↓e_X8_known_18, ↓e_X8_known_21, ↓e_X8_known_23, ↓e_X8_known_26, ↓e_X8_known_34, g8 o8_0, g7 o7_1, v6 o6_2, v8 o8_0, Nat.reduceAdd, s_hasPart o6_2, hc.1, inB_f (show np < 2 ^ 31 by omega) hb, zps_s, bI_0, x_bad, zk_i, zk_r, zk_n, ↓reduceIte]
    · rw [m_known E d hn.1 (by rw [hr 130 (by decide)]; exact hm.1), if_neg hb]
theorem op_sat (E : zE) (d : Nat) {z : zS} (hI : Inv z) (p : Int32) : OpI E (d + 2) 98 181 [.int p] z := by
  obtain ⟨⟨np, nc, ns, nl, ny, ch, ea, h⟩, -⟩ := id hI
  obtain ⟨hc, hm, hn⟩ := rt_F h
  by_cases hb : inB p (nI nc) = true
  · obtain ⟨j, hj, rfl⟩ := of_inB rfl (by omega) hb
    refine ⟨z.1 130 (84 + j), z, z, fun K => ?_, fun K => ?_, hI⟩
    · simp only [↓c_X8_sat, ↓e_X8_sat_0, ↓e_X8_sat_4, ↓e_X8_sat_7, ↓e_X8_sat_11, ↓e_X8_sat_14, ↓e_X8_sat_18, ↓e_X8_sat_21, ↓e_X8_sat_23, ↓e_X8_sat_26, ↓e_X8_sat_34, g8 o8_0, g7 o7_1, v6 o6_2, Nat.reduceAdd, s_hasChild o6_2, hc.2.1, hb, zps_s, bI_0, ri_k i17 (show j < 6 by omega) (by decide), (rt_C h hj).2.2.2.2.2.2.2.2.1, zk_i, zk_r, zk_n, reduceCtorEq, ↓reduceIte]
    · rw [m_sat E d hn.2.1 hm.2.1, if_pos hb, nI_cl (by omega)]
  · refine op_ref hI 0 (-2) (fun K => ?_) (fun z1 K hr e => ?_)
    · simp only [↓c_X8_sat, ↓e_X8_sat_0, ↓e_X8_sat_4, ↓e_X8_sat_7, ↓e_X8_sat_11, ↓e_X8_sat_14, ↓e_X8_sat_18, ↓e_X8_sat_21, ↓e_X8_sat_23, ↓e_X8_sat_26, ↓e_X8_sat_34, g8 o8_0, g7 o7_1, v6 o6_2, v8 o8_0, Nat.reduceAdd, s_hasChild o6_2, hc.2.1, inB_f (show nc < 2 ^ 31 by omega) hb, zps_s, bI_0, x_bad, zk_i, zk_r, zk_n, ↓reduceIte]
    · rw [m_sat E d hn.2.1 (by rw [hr 130 (by decide)]; exact hm.2.1), if_neg hb]
theorem op_fit (E : zE) (d : Nat) {z : zS} (hI : Inv z) (c p : Int32) : OpI E (d + 3) 89 155 [.int c, .int p] z := by
  obtain ⟨⟨np, nc, ns, nl, ny, ch, ea, h⟩, -⟩ := id hI
  obtain ⟨hc, hm, hn⟩ := rt_F h
  by_cases hb : (inB c (nI nc) && inB p (nI np)) = true
  · have hb' := Bool.and_eq_true_iff.mp hb
    obtain ⟨j, hj, rfl⟩ := of_inB rfl (by omega) hb'.1
    obtain ⟨q, hq, rfl⟩ := of_inB rfl (by omega) hb'.2
    obtain ⟨n, -, e1, e2⟩ := q_fit h hj hq
    refine ⟨nI n, z, z, fun K => ?_, fun K => ?_, hI⟩
    · simp only [↓c_X8_fit, ↓e_X8_fit_0, ↓e_X8_fit_4, ↓e_X8_fit_7, ↓e_X8_fit_11, ↓e_X8_fit_14, ↓e_X8_fit_18, ↓e_X8_fit_21, ↓e_X8_fit_25, ↓e_X8_fit_28, ↓e_X8_fit_36, ↓e_X8_fit_37, ↓e_X8_fit_41, ↓e_X8_fit_44, ↓e_X8_fit_49, g8 o8_0, g7 o7_1, v6 o6_2, Nat.reduceAdd, s_hasChild o6_2, s_hasPart o6_2, hc.1, hc.2.1, hb'.1, hb'.2, zps_s, bI_0, s_fitOf isS_2 (rt_wf h), e1, zk_i, zk_r, zk_n, reduceCtorEq, ↓reduceIte]
    · rw [m_fit E (d + 1) hn.1 hn.2.1 hm.1 hm.2.1, if_pos hb, nI_cl (by omega), nI_cl (by omega), e2]
  · refine op_ref hI 0 (-2) (fun K => ?_) (fun z1 K hr e => ?_)
    · cases h1 : inB c (nI nc) <;> cases h2 : inB p (nI np) <;> (first | (rw [h1, h2] at hb; exact absurd rfl hb) | simp only [↓c_X8_fit, ↓e_X8_fit_0, ↓e_X8_fit_4, ↓e_X8_fit_7, ↓e_X8_fit_11, ↓e_X8_fit_14, ↓e_X8_fit_18, ↓e_X8_fit_21, ↓e_X8_fit_25, ↓e_X8_fit_28, ↓e_X8_fit_36, ↓e_X8_fit_37, ↓e_X8_fit_41, ↓e_X8_fit_44, ↓e_X8_fit_49, g8 o8_0, g7 o7_1, v6 o6_2, v8 o8_0, Nat.reduceAdd, s_hasChild o6_2, s_hasPart o6_2, hc.1, hc.2.1, h1, h2, zps_s, bI_0, x_bad, zk_i, zk_r, zk_n, reduceCtorEq, ↓reduceIte])
    · rw [m_fit E (d + 1) hn.1 hn.2.1 (by rw [hr 130 (by decide)]; exact hm.1) (by rw [hr 130 (by decide)]; exact hm.2.1), if_neg hb]
theorem op_clash (E : zE) (d : Nat) {z : zS} (hI : Inv z) (a b : Int32) : OpI E (d + 4) 90 158 [.int a, .int b] z := by
  obtain ⟨⟨np, nc, ns, nl, ny, ch, ea, h⟩, -⟩ := id hI
  obtain ⟨hc, hm, hn⟩ := rt_F h
  by_cases hb : (inB a (nI np) && inB b (nI np) && !decide (a = b)) = true
  · have hb' := Bool.and_eq_true_iff.mp hb
    have hb2 := Bool.and_eq_true_iff.mp hb'.1
    have hne : ¬ a = b := by simpa using hb'.2
    obtain ⟨j, hj, rfl⟩ := of_inB rfl (by omega) hb2.1
    obtain ⟨q, hq, rfl⟩ := of_inB rfl (by omega) hb2.2
    refine ⟨bI (ccB z ns ch (nI j) (nI q)), z, z, fun K => ?_, fun K => ?_, hI⟩
    · simp only [↓c_X8_clash, ↓e_X8_clash_0, ↓e_X8_clash_4, ↓e_X8_clash_7, ↓e_X8_clash_11, ↓e_X8_clash_14, ↓e_X8_clash_18, ↓e_X8_clash_21, ↓e_X8_clash_25, ↓e_X8_clash_28, ↓e_X8_clash_33, ↓e_X8_clash_41, ↓e_X8_clash_42, ↓e_X8_clash_46, ↓e_X8_clash_49, ↓e_X8_clash_55, ↓e_X8_clash_58, ↓e_X8_clash_61, ↓e_X8_clash_64, ↓e_X8_clash_68, ↓e_X8_clash_69, g8 o8_0, g7 o7_1, v6 o6_2, Nat.reduceAdd, s_hasPart o6_2, hc.1, hc.2.2.2.1, hb2.1, hb2.2, hne, zps_s, bI_0, s_clashing isS_2 (rt_wf h) E d _ _ hn.2.2.2.1, q_cl h hj hq, zk_i, zk_r, zk_n, reduceCtorEq, ↓reduceIte]
      cases ccB z ns ch (nI j) (nI q) <;> simp [bI]
    · rw [m_clash E (d + 2) hn.1 hn.2.2.1 hn.2.2.2.1 hm.1 hm.2.2.1 hm.2.2.2.1, if_pos hb]
  · refine op_ref hI 0 (-2) (fun K => ?_) (fun z1 K hr e => ?_)
    · by_cases hne : a = b <;> cases h1 : inB a (nI np) <;> cases h2 : inB b (nI np) <;> (first | (simp [h1, h2, hne] at hb; done) | simp only [↓c_X8_clash, ↓e_X8_clash_0, ↓e_X8_clash_4, ↓e_X8_clash_7, ↓e_X8_clash_11, ↓e_X8_clash_14, ↓e_X8_clash_18, ↓e_X8_clash_21, ↓e_X8_clash_25, ↓e_X8_clash_28, ↓e_X8_clash_33, ↓e_X8_clash_41, ↓e_X8_clash_42, ↓e_X8_clash_46, ↓e_X8_clash_49, ↓e_X8_clash_55, ↓e_X8_clash_58, ↓e_X8_clash_61, ↓e_X8_clash_64, ↓e_X8_clash_68, ↓e_X8_clash_69, g8 o8_0, g7 o7_1, v6 o6_2, v8 o8_0, Nat.reduceAdd, s_hasPart o6_2, hc.1, h1, h2, hne, zps_s, bI_0, x_bad, zk_i, zk_r, zk_n, reduceCtorEq, ↓reduceIte])
    · rw [m_clash E (d + 2) hn.1 hn.2.2.1 hn.2.2.2.1 (by rw [hr 130 (by decide)]; exact hm.1) (by rw [hr 130 (by decide)]; exact hm.2.2.1) (by rw [hr 130 (by decide)]; exact hm.2.2.2.1), if_neg hb]
