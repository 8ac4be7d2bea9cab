/-! rehearse, night: both sides -/
theorem itr_satv (P : Nat → Bool) (m : Int32) (g : Nat → Int32) (j : Nat) : ∀ n, itr (fun c g => if P c = true then upd g c (g c + m) else g) n g j = if j < n ∧ P j = true then g j + m else g j
  | 0 => by
    rw [if_neg (by omega)]
    rfl
  | n + 1 => by
    have ih := fun j => itr_satv P m g j n
    show (if P n = true then upd (itr (fun c g => if P c = true then upd g c (g c + m) else g) n g) n (itr (fun c g => if P c = true then upd g c (g c + m) else g) n g n + m) else itr (fun c g => if P c = true then upd g c (g c + m) else g) n g) j = _
    generalize itr (fun c g => if P c = true then upd g c (g c + m) else g) n g = G at ih
    by_cases hp : P n = true
    · rw [if_pos hp]
      unfold upd
      by_cases e : j = n
      · subst e
        rw [if_pos rfl, if_pos ⟨by omega, hp⟩, ih, if_neg (by omega)]
      · rw [if_neg e, ih]
        by_cases q : j < n ∧ P j = true
        · rw [if_pos q, if_pos ⟨by omega, q.2⟩]
        · rw [if_neg q, if_neg (fun q2 => q ⟨by omega, q2.2⟩)]
    · rw [if_neg hp, ih]
      by_cases q : j < n ∧ P j = true
      · rw [if_pos q, if_pos ⟨by omega, q.2⟩]
      · rw [if_neg q, if_neg (fun q2 => q ⟨by
          by_cases e : j = n
          · subst e
            exact absurd q2.2 hp
          · omega, q2.2⟩)]
theorem op_rehearse (E : zE) (d : Nat) {z : zS} (hI : Inv z) (s m : Int32) : OpI E (d + 3) 95 178 [.int s, .int m] z := by
  obtain ⟨⟨np, nc, ns, nl, ny, ch, ea, h⟩, -⟩ := id hI
  obtain ⟨hc, hm, hn⟩ := rt_F h
  have n3 : ns < 2 ^ 31 := by omega
  cases hb : inB s (nI ns) with
  | false =>
    refine op_ref hI 0 (-2) (fun K => ?_) (fun z1 K hr e => ?_)
    · simp only [↓c_X8_rehearse, ↓e_X8_rehearse_0, ↓e_X8_rehearse_4, ↓e_X8_rehearse_7, ↓e_X8_rehearse_11, ↓e_X8_rehearse_14, ↓e_X8_rehearse_18, ↓e_X8_rehearse_21, ↓e_X8_rehearse_29, ↓e_X8_rehearse_30, ↓e_X8_rehearse_37, ↓e_X8_rehearse_40, ↓e_X8_rehearse_43, ↓e_X8_rehearse_46, ↓e_X8_rehearse_50, ↓e_X8_rehearse_53, ↓e_X8_rehearse_58, ↓e_X8_rehearse_61, ↓e_X8_rehearse_63, ↓e_X8_rehearse_67, ↓e_X8_rehearse_73, ↓e_X8_rehearse_76, ↓e_X8_rehearse_77, ↓e_X8_rehearse_83, ↓e_X8_rehearse_87, ↓e_X8_rehearse_91, ↓e_X8_rehearse_101, ↓e_X8_rehearse_104, ↓e_X8_rehearse_107, ↓e_X8_rehearse_110, ↓e_X8_rehearse_119, ↓e_X8_rehearse_123, ↓e_X8_rehearse_126, ↓e_X8_rehearse_130, ↓e_X8_rehearse_133, ↓e_X8_rehearse_139, ↓e_X8_rehearse_143, g8 o8_0, g7 o7_1, v6 o6_2, v8 o8_0, Nat.reduceAdd, s_hasScene o6_2, hc.2.2.1, hb, zps_s, bI_0, x_bad, zk_i, zk_r, zk_n, ↓reduceIte]
    · simp only [↓c_X9_rehearse, ↓e_X9_rehearse_0, ↓e_X9_rehearse_5, ↓e_X9_rehearse_8, ↓e_X9_rehearse_17, ↓e_X9_rehearse_20, ↓e_X9_rehearse_24, ↓e_X9_rehearse_25, ↓e_X9_rehearse_29, ↓e_X9_rehearse_35, ↓e_X9_rehearse_39, ↓e_X9_rehearse_50, ↓e_X9_rehearse_53, ↓e_X9_rehearse_56, ↓e_X9_rehearse_64, ↓e_X9_rehearse_67, ↓e_X9_rehearse_73, ↓e_X9_rehearse_80, ↓e_X9_rehearse_87, ↓e_X9_rehearse_90, ↓e_X9_rehearse_94, ↓e_X9_rehearse_95, ↓e_X9_rehearse_97, ↓e_X9_rehearse_103, v9 o9_129, m_isScene E (d + 1) n3 (show z1.1 130 106 = nI ns by rw [hr 130 (by decide)]; exact hm.2.2.1), hb, zps_s, bI_0, m_bad, zk_i, zk_r, zk_n, ↓reduceIte]
  | true =>
    obtain ⟨j, hj, rfl⟩ := of_inB rfl n3 hb
    rcases inL_c (x := m) 1 40 m_d1 (by decide : (40 : Int64).toInt = ((40 : Nat) : Int)) (by decide) (by decide) with ⟨hv, k, k1, k2, rfl⟩ | ⟨hv, hv2⟩
    · obtain ⟨G1, hG1⟩ : ∃ G : Nat → Int32, G = itr (fun p g => upd g p (nI (min 100 (knN z p + lnN z j k p)))) np (z.1 16) := ⟨_, rfl⟩
      obtain ⟨G2, hG2⟩ : ∃ G : Nat → Int32, G = itr (fun c g => if sitB z np j (nI c) = true then upd g c (g c + nI k) else g) nc (z.1 17) := ⟨_, rfl⟩
      have e130 : setR (setR z.1 16 G1) 17 G2 130 = z.1 130 := by rw [setR_n (by decide), setR_n (by decide)]
      obtain ⟨z2, e2, f1, f2, f3⟩ := m_rehearse E d (z0 := (setR (setR z.1 16 G1) 17 G2, z.2)) h e130 hj k1 k2
      have fz : ∀ r, r ≠ 129 → r ≠ 130 → r ≠ 137 → r ≠ 16 → r ≠ 17 → z2.1 r = z.1 r := fun r h1 h2 h3 h4 h5 => by
        rw [f1 r h1 h2 h3]
        show setR (setR z.1 16 G1) 17 G2 r = z.1 r
        rw [setR_n h5, setR_n h4]
      refine ⟨nI (siN z np nc j), (setR (setR z.1 16 G1) 17 G2, z.2), z2, fun K => by rw [hG1, hG2]; exact x_rehearse E d h hj k1 k2 K, e2, ?_⟩
      refine Inv_upd (z := z) ⟨np, nc, ns, nl, ny, ch, ea, RT_kn h (fun p hp => ?_) (fun c hc => ?_) (fun r h1 h2 h3 h4 => fz r (by omega) (by omega) (by omega) h3 h4) (fun k h1 h2 h3 => ?_)⟩ (fun r hr => fz r (by omega) (by omega) (by omega) (by omega) (by omega)) (fun k hk => ?_) (by rw [f2]) (by rw [f2]) (by rw [f2]) hI
      · have a : z2.1 130 (30 + p) = nI (min 100 (knN z p + lnN z j k p)) := by rw [f3, if_pos (by omega), show 30 + p - 30 = p by omega]
        have b : z2.1 16 p = nI (min 100 (knN z p + lnN z j k p)) := by
          rw [f1 16 (by decide) (by decide) (by decide)]
          show setR (setR z.1 16 G1) 17 G2 16 p = _
          rw [setR_n (by decide), setR_s, hG1, itr_updv (fun p => nI (min 100 (knN z p + lnN z j k p))), if_pos hp]
        rw [a, b]
        exact ⟨rfl, _, Nat.zero_le _, Nat.min_le_left _ _, rfl⟩
      · have a : z2.1 130 (84 + c) = z.1 130 (84 + c) + siM z np j (nI k) c := by rw [f3, if_neg (by omega), if_pos (by omega), show 84 + c - 84 = c by omega]
        have b : z2.1 17 c = if c < nc ∧ sitB z np j (nI c) = true then z.1 17 c + nI k else z.1 17 c := by
          rw [f1 17 (by decide) (by decide) (by decide)]
          show setR (setR z.1 16 G1) 17 G2 17 c = _
          rw [setR_s, hG2, itr_satv (fun c => sitB z np j (nI c))]
        rw [a, b, (rt_C h hc).2.2.2.2.2.2.2.2.1]
        unfold siM
        by_cases q : sitB z np j (nI c) = true
        · rw [if_pos ⟨hc, q⟩, if_pos q]
        · rw [if_neg (fun q2 => q q2.2), if_neg q, Int32.add_zero]
      · rw [f3, if_neg (by omega), if_neg (by omega)]
      · rw [f3, if_neg (by omega), if_neg (by omega)]
    · refine op_ref hI 0 (-2) (fun K => ?_) (fun z1 K hr e => ?_)
      · simp only [↓c_X8_rehearse, ↓e_X8_rehearse_0, ↓e_X8_rehearse_4, ↓e_X8_rehearse_7, ↓e_X8_rehearse_11, ↓e_X8_rehearse_14, ↓e_X8_rehearse_18, ↓e_X8_rehearse_21, ↓e_X8_rehearse_29, ↓e_X8_rehearse_30, ↓e_X8_rehearse_37, ↓e_X8_rehearse_40, ↓e_X8_rehearse_43, ↓e_X8_rehearse_46, ↓e_X8_rehearse_50, ↓e_X8_rehearse_53, ↓e_X8_rehearse_58, ↓e_X8_rehearse_61, ↓e_X8_rehearse_63, ↓e_X8_rehearse_67, ↓e_X8_rehearse_73, ↓e_X8_rehearse_76, ↓e_X8_rehearse_77, ↓e_X8_rehearse_83, ↓e_X8_rehearse_87, ↓e_X8_rehearse_91, ↓e_X8_rehearse_101, ↓e_X8_rehearse_104, ↓e_X8_rehearse_107, ↓e_X8_rehearse_110, ↓e_X8_rehearse_119, ↓e_X8_rehearse_123, ↓e_X8_rehearse_126, ↓e_X8_rehearse_130, ↓e_X8_rehearse_133, ↓e_X8_rehearse_139, ↓e_X8_rehearse_143, g8 o8_0, g7 o7_1, v6 o6_2, v8 o8_0, Nat.reduceAdd, s_hasScene o6_2, hc.2.2.1, hb, x_isMinutes, hv, zps_s, bI_0, x_bad, zk_i, zk_r, zk_n, reduceCtorEq, ↓reduceIte]
      · simp only [↓c_X9_rehearse, ↓e_X9_rehearse_0, ↓e_X9_rehearse_5, ↓e_X9_rehearse_8, ↓e_X9_rehearse_17, ↓e_X9_rehearse_20, ↓e_X9_rehearse_24, ↓e_X9_rehearse_25, ↓e_X9_rehearse_29, ↓e_X9_rehearse_35, ↓e_X9_rehearse_39, ↓e_X9_rehearse_50, ↓e_X9_rehearse_53, ↓e_X9_rehearse_56, ↓e_X9_rehearse_64, ↓e_X9_rehearse_67, ↓e_X9_rehearse_73, ↓e_X9_rehearse_80, ↓e_X9_rehearse_87, ↓e_X9_rehearse_90, ↓e_X9_rehearse_94, ↓e_X9_rehearse_95, ↓e_X9_rehearse_97, ↓e_X9_rehearse_103, v9 o9_129, m_isScene E (d + 1) n3 (show z1.1 130 106 = nI ns by rw [hr 130 (by decide)]; exact hm.2.2.1), hb, m_in, hv, zps_s, bI_0, m_bad, zk_i, zk_r, zk_n, reduceCtorEq, ↓reduceIte]
theorem x_night (E : zE) (d : Nat) {z : zS} {np nc ns nl ny ch ea : Nat} (h : RT z.1 1 0 np nc ns nl ny ch ea) (K : Option Value → zH → Prop) : Cl E (d + 2) 96 [.ref 0] (HP z) K = K (some (.int 1)) (HP (setR z.1 16 (itr (fun p g => upd g p (nI (knN z p - knN z p * fdN z p / 20))) np (z.1 16)), z.2)) := by
  obtain ⟨hc, hmm, hn⟩ := rt_F h
  have n1 : np < 2 ^ 31 := by omega
  have c16 : ∀ (g : Nat → Int32) r, r ≠ 16 → setR z.1 16 g r = z.1 r := fun g r hr => setR_n hr _ _
  have loop1 := itr_eq (fun i g => Ev E (d + 2) zm_X8_night 2 [some (.ref 0), some (.int (nI i))] [] (HP (setR z.1 16 g, z.2)) K) (fun p g => upd g p (nI (knN z p - knN z p * fdN z p / 20))) (z.1 16) np (fun i hi => by
    have hg : itr (fun p g => upd g p (nI (knN z p - knN z p * fdN z p / 20))) i (z.1 16) i = nI (knN z i) := by
      rw [itr_updv (fun p => nI (knN z p - knN z p * fdN z p / 20)), if_neg (by omega)]
      exact (q_kn h hi).2.1
    generalize itr _ i _ = g at hg
    have hl := t_fading isT_1 (z := (setR z.1 16 g, z.2)) (wfS_c (o := 1 + 1) (c16 g 2 (by decide)) (rt_wf h)) E d (nI i)
    rw [fdZ_c (z := z) (c16 g), (q_fd h hi).1] at hl
    have hg2 : setR z.1 16 g 2 0 = nI np := by rw [c16 g 2 (by decide)]; exact hc.1
    have hg6 : setR z.1 16 g 16 i = nI (knN z i) := by rw [setR_s]; exact hg
    rw [e_X8_night_2]
    simp only [↓e_X8_night_7, ↓e_X8_night_10, ↓e_X8_night_13, ↓e_X8_night_16, ↓e_X8_night_20, ↓e_X8_night_23, ↓e_X8_night_28, ↓e_X8_night_31, ↓e_X8_night_33, ↓e_X8_night_37, ↓e_X8_night_41, ↓e_X8_night_44, ↓e_X8_night_45, ↓e_X8_night_51, g8 o8_0, g7 o7_1, g6 o6_2, v7 o7_1, Nat.reduceAdd, hg2, hg6, hl, x_knownAfterNight E (d + 1) (q_kn h hi).2.2 (q_fd h hi).2, ri_k i16 (show i < 6 by omega) (by decide), wi_k i16 (show i < 6 by omega) (by decide), set2_R, setR_s, setR_2, zps_s, zk_i, zk_r, zk_n, nI_lt_iff (show i < 2 ^ 31 by omega) n1, hi, ↓reduceIte, nI_1])
  rw [setR_id, nI_0] at loop1
  simp only [↓c_X8_night, ↓e_X8_night_0, ↓e_X8_night_7, ↓e_X8_night_10, ↓e_X8_night_13, ↓e_X8_night_16, ↓e_X8_night_20, ↓e_X8_night_23, ↓e_X8_night_28, ↓e_X8_night_31, ↓e_X8_night_33, ↓e_X8_night_37, ↓e_X8_night_41, ↓e_X8_night_44, ↓e_X8_night_45, ↓e_X8_night_51, zk_i, zk_r, zk_n]
  rw [loop1, e_X8_night_2]
  have hg0 : ∀ g, setR z.1 16 g 2 0 = nI np := fun g => by rw [c16 g 2 (by decide)]; exact hc.1
  simp only [↓e_X8_night_7, ↓e_X8_night_10, ↓e_X8_night_13, ↓e_X8_night_16, ↓e_X8_night_20, ↓e_X8_night_23, ↓e_X8_night_28, ↓e_X8_night_31, ↓e_X8_night_33, ↓e_X8_night_37, ↓e_X8_night_41, ↓e_X8_night_44, ↓e_X8_night_45, ↓e_X8_night_51, g8 o8_0, g7 o7_1, g6 o6_2, Nat.reduceAdd, hg0, zk_i, zk_r, zk_n, nI_lt_iff n1 n1, Nat.lt_irrefl, ↓reduceIte]
theorem op_night (E : zE) (d : Nat) {z : zS} (hI : Inv z) : OpI E (d + 2) 96 179 [] z := by
  obtain ⟨⟨np, nc, ns, nl, ny, ch, ea, h⟩, -⟩ := id hI
  obtain ⟨hc, hm, hn⟩ := rt_F h
  obtain ⟨G1, hG1⟩ : ∃ G : Nat → Int32, G = itr (fun p g => upd g p (nI (knN z p - knN z p * fdN z p / 20))) np (z.1 16) := ⟨_, rfl⟩
  have e130 : setR z.1 16 G1 130 = z.1 130 := setR_n (by decide) _ _
  have mn := m_night E d (z := (setR z.1 16 G1, z.2)) hn.1 (show setR z.1 16 G1 130 104 = nI np by rw [e130]; exact hm.1) (okC_c (z := z) e130.symm (q_okC h))
  obtain ⟨f1, hf1⟩ : ∃ f : Nat → Nat → Int32, f = itr (mvF 137 0 130 30) 6 (setR z.1 16 G1) := ⟨_, rfl⟩
  have a1 : ∀ r, r ≠ 137 → f1 r = setR z.1 16 G1 r := fun r hr => by rw [hf1, mv_r hr]
  have a2 : ∀ p, p < 6 → f1 137 p = z.1 130 (30 + p) := fun p hp => by rw [hf1, mv_to (by decide), if_pos (by omega), e130, Nat.sub_zero]
  have f130 : f1 130 = z.1 130 := by rw [a1 130 (by decide), e130]
  obtain ⟨f2, hf2⟩ : ∃ f : Nat → Nat → Int32, f = setR f1 137 (itr (anF (f1, z.2)) np (f1 137)) := ⟨_, rfl⟩
  have b2 : ∀ p, f2 137 p = if p < np then nI (knN z p - knN z p * fdN z p / 20) else f1 137 p := fun p => by
    rw [hf2, setR_s, anF_c (z := z) f130, itr_an h (k := knN z) (fun q hq => by rw [a2 q (by omega)]; exact ⟨(q_kn h hq).1, (q_kn h hq).2.2⟩) np (Nat.le_refl _), itr_updv (fun p => nI (knN z p - knN z p * fdN z p / 20))]
  have b1 : ∀ r, r ≠ 137 → f2 r = setR z.1 16 G1 r := fun r h1 => by rw [hf2, setR_n h1, a1 r h1]
  obtain ⟨f3, hf3⟩ : ∃ f : Nat → Nat → Int32, f = itr (mvF 130 30 137 0) 6 f2 := ⟨_, rfl⟩
  have c1 : ∀ r, r ≠ 130 → f3 r = f2 r := fun r hr => by rw [hf3, mv_r hr]
  have c2 : ∀ k, f3 130 k = if 30 ≤ k ∧ k < 30 + np then nI (knN z (k - 30) - knN z (k - 30) * fdN z (k - 30) / 20) else z.1 130 k := fun k => by
    rw [hf3, mv_to (by decide), Nat.zero_add, b2, b1 130 (by decide), e130]
    by_cases q : 30 ≤ k ∧ k < 30 + np
    · rw [if_pos q, if_pos (by omega), if_pos (by omega)]
    · rw [if_neg q]
      by_cases q2 : 30 ≤ k ∧ k < 30 + 6
      · rw [if_pos q2, if_neg (by omega), a2 _ (by omega), show 30 + (k - 30) = k by omega]
      · rw [if_neg q2]
  have fz : ∀ r, r ≠ 130 → r ≠ 137 → r ≠ 16 → f3 r = z.1 r := fun r h1 h2 h3 => by rw [c1 r h1, b1 r h2, setR_n h3]
  refine ⟨1, (setR z.1 16 G1, z.2), (f3, z.2), fun K => by rw [hG1]; exact x_night E d h K, fun K => ?_, ?_⟩
  · rw [mn, hf3, hf2, hf1]
  · refine Inv_upd (z := z) ⟨np, nc, ns, nl, ny, ch, ea, RT_kn h (fun p hp => ?_) (fun c hc => ?_) (fun r h1 h2 h3 h4 => fz r (by omega) (by omega) h3) (fun k h1 h2 h3 => ?_)⟩ (fun r hr => fz r (by omega) (by omega) (by omega)) (fun k hk => ?_) rfl rfl rfl hI
    · have a : f3 130 (30 + p) = nI (knN z p - knN z p * fdN z p / 20) := by rw [c2, if_pos (by omega), show 30 + p - 30 = p by omega]
      have b : f3 16 p = nI (knN z p - knN z p * fdN z p / 20) := by
        rw [c1 16 (by decide), b1 16 (by decide), setR_s, hG1, itr_updv (fun p => nI (knN z p - knN z p * fdN z p / 20)), if_pos hp]
      show f3 16 p = f3 130 (30 + p) ∧ rg (f3 130 (30 + p)) 0 100
      rw [a, b]
      exact ⟨rfl, _, Nat.zero_le _, Nat.le_trans (Nat.sub_le _ _) (q_kn h hp).2.2, rfl⟩
    · show f3 17 c = f3 130 (84 + c)
      rw [fz 17 (by decide) (by decide) (by decide), c2, if_neg (by omega)]
      exact (rt_C h hc).2.2.2.2.2.2.2.2.1
    · show f3 130 k = z.1 130 k
      rw [c2, if_neg (by omega)]
    · show f3 130 k = z.1 130 k
      rw [c2, if_neg (by omega)]
