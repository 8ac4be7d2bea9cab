/-! best, takeBest: both sides -/
theorem Inv_ref3 {z zF : zS} (hI : Inv z) (k : Nat) (h1 : ∀ r, r < 24 ∨ (90 < r ∧ r < 129) ∨ (129 < r ∧ r < 133) → r ≠ 23 → r ≠ 132 → zF.1 r = z.1 r) (h23 : zF.1 23 = upd (z.1 23) k (z.1 23 k + 1)) (h132 : zF.1 132 = upd (z.1 132) k (z.1 132 k + 1)) (hl : zF.2.1 = z.2.1) : Inv zF := by
  refine Inv_keep (z := (set2 (set2 z.1 23 k (z.1 23 k + 1)) 132 k (z.1 132 k + 1), z.2)) (fun r hr => ?_) (by rw [hl]) (by rw [hl]) (by rw [hl]) (Inv_ref k hI)
  dsimp only
  by_cases e : r = 132
  · subst e
    rw [h132, set2_R, setR_s, set2_a (by decide)]
  · rw [set2_a e]
    by_cases e2 : r = 23
    · subst e2
      rw [h23, set2_R, setR_s]
    · rw [set2_a e2, h1 r hr e2 e]
theorem inB_n1 {n : Nat} : inB (-1) (nI n) = false := inB_m1 _
theorem op_best (E : zE) (d : Nat) {z : zS} (hI : Inv z) (p : Int32) : OpI E (d + 10) 91 166 [.int p] z := by
  obtain ⟨⟨np, nc, ns, nl, ny, ch, ea, h⟩, -⟩ := id hI
  obtain ⟨hc, hm, hn⟩ := rt_F h
  have n1 : np < 2 ^ 31 := by omega
  have i39 : isI 39 6 := rfl
  by_cases hbad : ¬ p = -1 ∧ inB p (nI np) = false
  · refine op_ref hI 0 (-10) (fun K => ?_) (fun z1 K hr e => ?_)
    · simp only [↓c_X8_best, ↓e_X8_best_0, ↓e_X8_best_5, ↓e_X8_best_9, ↓e_X8_best_12, ↓e_X8_best_16, ↓e_X8_best_19, ↓e_X8_best_27, ↓e_X8_best_28, ↓e_X8_best_32, ↓e_X8_best_36, ↓e_X8_best_39, ↓e_X8_best_42, ↓e_X8_best_50, ↓e_X8_best_51, ↓e_X8_best_56, ↓e_X8_best_60, ↓e_X8_best_63, ↓e_X8_best_66, ↓e_X8_best_70, ↓e_X8_best_73, ↓e_X8_best_75, hbad.1, hbad.2, g8 o8_0, g7 o7_1, v6 o6_2, v8 o8_0, Nat.reduceAdd, s_hasPart o6_2, hc.1, zps_s, bI_0, x_bad, zk_i, zk_r, zk_n, ↓reduceIte]
    · simp only [↓c_X9_best, ↓e_X9_best_0, ↓e_X9_best_5, ↓e_X9_best_10, ↓e_X9_best_13, ↓e_X9_best_20, ↓e_X9_best_21, ↓e_X9_best_25, ↓e_X9_best_29, ↓e_X9_best_32, ↓e_X9_best_39, ↓e_X9_best_42, ↓e_X9_best_47, ↓e_X9_best_51, ↓e_X9_best_54, ↓e_X9_best_58, ↓e_X9_best_60, hbad.1, hbad.2, v9 o9_129, m_isPart E (d + 8) n1 (show z1.1 130 104 = nI np by rw [hr 130 (by decide)]; exact hm.1), zps_s, bI_0, m_r0, zk_i, zk_r, zk_n, ↓reduceIte]
  · have hp : p = -1 ∨ (¬ p = -1 ∧ inB p (nI np) = true) := by
      by_cases e : p = -1
      · exact Or.inl e
      · refine Or.inr ⟨e, ?_⟩
        cases hb : inB p (nI np) with
        | true => rfl
        | false => exact absurd ⟨e, hb⟩ hbad
    obtain ⟨r, z1, ⟨o, hr, ht, hf, pk, sr⟩, e1⟩ := Hr_use (x_findBest E d h)
    subst hr
    have z1130 : z1.1 130 = z.1 130 := hf 130 (by omega)
    cases o with
    | none =>
      obtain ⟨r2, z3, ⟨hr2, ht2, hf2, o2, pk2, sm2⟩, e3⟩ := Hr_use (m_findBest E (d + 5) (z0 := (set2 z1.1 23 1 (z1.1 23 1 + 1), z1.2)) h (by show set2 z1.1 23 1 (z1.1 23 1 + 1) 130 = _; rw [set2_a (by decide)]; exact z1130))
      subst hr2
      have eo := Pk_uniq pk pk2
      subst eo
      have e14 : z3.1 129 14 = 0 := sm2
      have ebI : bI (none : Option Nat).isSome = 0 := rfl
      rw [ebI] at e1
      refine ⟨-20, (set2 z1.1 23 1 (z1.1 23 1 + 1), z1.2), (set2 z3.1 132 1 (z3.1 132 1 + 1), z3.2), fun K => ?_, fun K => ?_, ?_⟩
      · rcases hp with rfl | ⟨q1, q2⟩
        · simp only [↓c_X8_best, ↓e_X8_best_0, ↓e_X8_best_5, ↓e_X8_best_9, ↓e_X8_best_12, ↓e_X8_best_16, ↓e_X8_best_19, ↓e_X8_best_27, ↓e_X8_best_28, ↓e_X8_best_32, ↓e_X8_best_36, ↓e_X8_best_39, ↓e_X8_best_42, ↓e_X8_best_50, ↓e_X8_best_51, ↓e_X8_best_56, ↓e_X8_best_60, ↓e_X8_best_63, ↓e_X8_best_66, ↓e_X8_best_70, ↓e_X8_best_73, ↓e_X8_best_75, g8 o8_0, v8 o8_0, v0 o0_38, Nat.reduceAdd, e1, x_no, zps_s, zk_i, zk_r, zk_n, ↓reduceIte]
        · simp only [↓c_X8_best, ↓e_X8_best_0, ↓e_X8_best_5, ↓e_X8_best_9, ↓e_X8_best_12, ↓e_X8_best_16, ↓e_X8_best_19, ↓e_X8_best_27, ↓e_X8_best_28, ↓e_X8_best_32, ↓e_X8_best_36, ↓e_X8_best_39, ↓e_X8_best_42, ↓e_X8_best_50, ↓e_X8_best_51, ↓e_X8_best_56, ↓e_X8_best_60, ↓e_X8_best_63, ↓e_X8_best_66, ↓e_X8_best_70, ↓e_X8_best_73, ↓e_X8_best_75, q1, q2, g8 o8_0, g7 o7_1, v6 o6_2, v8 o8_0, v0 o0_38, Nat.reduceAdd, s_hasPart o6_2, hc.1, e1, x_no, zps_s, bI_0, zk_i, zk_r, zk_n, reduceCtorEq, ↓reduceIte]
      · have e104 : set2 z1.1 23 1 (z1.1 23 1 + 1) 130 104 = nI np := by rw [set2_a (by decide), z1130]; exact hm.1
        rcases hp with rfl | ⟨q1, q2⟩
        · simp only [↓c_X9_best, ↓e_X9_best_0, ↓e_X9_best_5, ↓e_X9_best_10, ↓e_X9_best_13, ↓e_X9_best_20, ↓e_X9_best_21, ↓e_X9_best_25, ↓e_X9_best_29, ↓e_X9_best_32, ↓e_X9_best_39, ↓e_X9_best_42, ↓e_X9_best_47, ↓e_X9_best_51, ↓e_X9_best_54, ↓e_X9_best_58, ↓e_X9_best_60, g9 o9_129, v9 o9_129, Nat.reduceAdd, e3, e14, m_r1, zps_s, zps_n, zk_i, zk_r, zk_n, ↓reduceIte]
        · simp only [↓c_X9_best, ↓e_X9_best_0, ↓e_X9_best_5, ↓e_X9_best_10, ↓e_X9_best_13, ↓e_X9_best_20, ↓e_X9_best_21, ↓e_X9_best_25, ↓e_X9_best_29, ↓e_X9_best_32, ↓e_X9_best_39, ↓e_X9_best_42, ↓e_X9_best_47, ↓e_X9_best_51, ↓e_X9_best_54, ↓e_X9_best_58, ↓e_X9_best_60, q1, q2, g9 o9_129, v9 o9_129, Nat.reduceAdd, m_isPart E (d + 8) n1 (z := (set2 z1.1 23 1 (z1.1 23 1 + 1), z1.2)) e104, e3, e14, m_r1, zps_s, zps_n, bI_0, zk_i, zk_r, zk_n, reduceCtorEq, ↓reduceIte]
      · refine Inv_ref3 hI 1 (fun r hr h2 h3 => ?_) ?_ ?_ ?_
        · dsimp only
          rw [set2_a h3, hf2 r (by omega) (by omega) (by omega) (by omega)]
          dsimp only
          rw [set2_a h2, hf r (by omega)]
        · dsimp only
          rw [set2_a (by decide), hf2 23 (by decide) (by decide) (by decide) (by decide)]
          dsimp only
          rw [set2_R, setR_s, hf 23 (by omega)]
        · dsimp only
          rw [set2_R, setR_s, hf2 132 (by decide) (by decide) (by decide) (by decide)]
          dsimp only
          rw [set2_a (by decide), hf 132 (by omega)]
        · show z3.2.1 = z.2.1
          rw [ht2, ht]
    | some j =>
      obtain ⟨r2, z3, ⟨hr2, ht2, hf2, o2, pk2, sm2⟩, e3⟩ := Hr_use (m_findBest E (d + 5) (z0 := z1) h z1130)
      subst hr2
      have eo := Pk_uniq pk pk2
      subst eo
      have ebI : bI (some j : Option Nat).isSome = 1 := rfl
      rw [ebI] at e1
      have e14 : z3.1 129 14 = 1 := sm2.1
      have hIF : Inv z3 := Inv_keep (z := z) (fun r hr => by rw [hf2 r (by omega) (by omega) (by omega) (by omega), hf r (by omega)]) (by rw [ht2, ht]) (by rw [ht2, ht]) (by rw [ht2, ht]) hI
      rcases hp with rfl | ⟨q1, q2⟩
      · refine ⟨iI (scd nc np (fitI z) j), z1, z3, fun K => ?_, fun K => ?_, hIF⟩
        · simp only [↓c_X8_best, ↓e_X8_best_0, ↓e_X8_best_5, ↓e_X8_best_9, ↓e_X8_best_12, ↓e_X8_best_16, ↓e_X8_best_19, ↓e_X8_best_27, ↓e_X8_best_28, ↓e_X8_best_32, ↓e_X8_best_36, ↓e_X8_best_39, ↓e_X8_best_42, ↓e_X8_best_50, ↓e_X8_best_51, ↓e_X8_best_56, ↓e_X8_best_60, ↓e_X8_best_63, ↓e_X8_best_66, ↓e_X8_best_70, ↓e_X8_best_73, ↓e_X8_best_75, g8 o8_0, g0 o0_38, v0 o0_38, Nat.reduceAdd, e1, i01, sr.2.1, zps_s, zk_i, zk_r, zk_n, ↓reduceIte]
        · simp only [↓c_X9_best, ↓e_X9_best_0, ↓e_X9_best_5, ↓e_X9_best_10, ↓e_X9_best_13, ↓e_X9_best_20, ↓e_X9_best_21, ↓e_X9_best_25, ↓e_X9_best_29, ↓e_X9_best_32, ↓e_X9_best_39, ↓e_X9_best_42, ↓e_X9_best_47, ↓e_X9_best_51, ↓e_X9_best_54, ↓e_X9_best_58, ↓e_X9_best_60, g9 o9_129, v9 o9_129, Nat.reduceAdd, e3, e14, i01, sm2.2.1, zps_s, zps_n, zk_i, zk_r, zk_n, ↓reduceIte]
      · obtain ⟨i, hi, rfl⟩ := of_inB rfl n1 q2
        have e104 : z1.1 130 104 = nI np := by rw [z1130]; exact hm.1
        refine ⟨nI (dg nc np j i), z1, z3, fun K => ?_, fun K => ?_, hIF⟩
        · simp only [↓c_X8_best, ↓e_X8_best_0, ↓e_X8_best_5, ↓e_X8_best_9, ↓e_X8_best_12, ↓e_X8_best_16, ↓e_X8_best_19, ↓e_X8_best_27, ↓e_X8_best_28, ↓e_X8_best_32, ↓e_X8_best_36, ↓e_X8_best_39, ↓e_X8_best_42, ↓e_X8_best_50, ↓e_X8_best_51, ↓e_X8_best_56, ↓e_X8_best_60, ↓e_X8_best_63, ↓e_X8_best_66, ↓e_X8_best_70, ↓e_X8_best_73, ↓e_X8_best_75, q1, q2, g8 o8_0, g7 o7_1, g0 o0_38, v6 o6_2, v0 o0_38, Nat.reduceAdd, s_hasPart o6_2, hc.1, e1, i01, ri_k i39 (show i < 6 by omega) (by decide), sr.2.2 i hi, zps_s, bI_0, zk_i, zk_r, zk_n, reduceCtorEq, ↓reduceIte]
        · simp only [↓c_X9_best, ↓e_X9_best_0, ↓e_X9_best_5, ↓e_X9_best_10, ↓e_X9_best_13, ↓e_X9_best_20, ↓e_X9_best_21, ↓e_X9_best_25, ↓e_X9_best_29, ↓e_X9_best_32, ↓e_X9_best_39, ↓e_X9_best_42, ↓e_X9_best_47, ↓e_X9_best_51, ↓e_X9_best_54, ↓e_X9_best_58, ↓e_X9_best_60, q1, q2, g9 o9_129, v9 o9_129, Nat.reduceAdd, m_isPart E (d + 8) n1 (z := z1) e104, e3, e14, i01, ri_k i136 (show i < 6 by omega) (by decide), sm2.2.2.2 i hi, zps_s, zps_n, bI_0, zk_i, zk_r, zk_n, reduceCtorEq, ↓reduceIte]
/-- CAST as found, in both -/
theorem RT_cast {f g : Nat → Nat → Int32} {np nc ns nl ny ch ea : Nat} {D : Nat → Nat} (h : RT f 1 0 np nc ns nl ny ch ea) (hD : ∀ p, p < np → D p < nc) (h14 : ∀ p, p < np → g 14 p = nI (D p)) (hs : ∀ k, k < 361 → g 130 k = if 18 ≤ k ∧ k < 18 + np then nI (D (k - 18)) else f 130 k) (hr : ∀ r, 1 ≤ r → r ≤ 19 → r ≠ 14 → g r = f r) : RT g 1 0 np nc ns nl ny ch ea := by
  obtain ⟨h0, hP, hC, hN, hB, hY⟩ := h
  have n := h0.2.2
  have eA : ∀ j i, j ≤ 18 → j ≠ 13 → g (j + 1) i = f (j + 1) i := fun j i h1 h2 => congrFun (hr _ (by omega) (by omega) (by omega)) i
  have eS : ∀ k, k < 361 → ¬ (18 ≤ k ∧ k < 24) → g 130 (k + 0) = f 130 (k + 0) := fun k h1 h2 => by
    show g 130 k = f 130 k
    rw [hs k h1, if_neg (by omega)]
  refine ⟨?_, fun q hq => ?_, fun c hc => rC_c (fun j i hj => eA j i (by omega) (by omega)) (fun k _ hk => eS k (by omega) (by omega)) (by omega) (hC c hc), fun i hi => rN_c (fun j hj => eA j i (by omega) (by omega)) (fun k _ hk => eS k (by omega) (by omega)) (by omega) (hN i hi), fun i hi => rB_c (eA 17 i (by omega) (by omega)) (eS _ (by omega) (by omega)) (hB i (by omega)), fun i hi => rY_c (eA 18 i (by omega) (by omega)) (eS _ (by omega) (by omega)) (hY i (by omega))⟩
  · unfold rF
    dsimp only
    rw [eA 1 0 (by omega) (by omega), eA 1 4 (by omega) (by omega), eA 1 11 (by omega) (by omega), eA 0 5 (by omega) (by omega), eA 0 6 (by omega) (by omega), eA 0 8 (by omega) (by omega), eA 0 10 (by omega) (by omega), eS 104 (by omega) (by omega), eS 105 (by omega) (by omega), eS 106 (by omega) (by omega), eS 107 (by omega) (by omega), eS 108 (by omega) (by omega), eS 120 (by omega) (by omega), eS 109 (by omega) (by omega)]
    exact h0
  · obtain ⟨p1, p2, p3, p4, p5, p6, p7, p8, p9, p10, p11, p12⟩ := hP q hq
    have a1 : g (13 + 1) q = nI (D q) := h14 q hq
    have a2 : g 130 (18 + q + 0) = nI (D q) := by
      show g 130 (18 + q) = _
      rw [hs _ (by omega), if_pos (by omega), show 18 + q - 18 = q by omega]
    unfold rP
    dsimp only
    rw [eA 2 q (by omega) (by omega), eA 3 q (by omega) (by omega), eA 4 q (by omega) (by omega), eA 14 q (by omega) (by omega), eA 15 q (by omega) (by omega), eS (3 * q) (by omega) (by omega), eS (3 * q + 1) (by omega) (by omega), eS (3 * q + 2) (by omega) (by omega), eS (24 + q) (by omega) (by omega), eS (30 + q) (by omega) (by omega), a1, a2]
    exact ⟨p1, p2, p3, rfl, p5, p6, p7, p8, p9, Or.inr ⟨D q, hD q hq, rfl⟩, p11, p12⟩
theorem op_takeBest (E : zE) (d : Nat) {z : zS} (hI : Inv z) : OpI E (d + 10) 94 170 [] z := by
  obtain ⟨⟨np, nc, ns, nl, ny, ch, ea, h⟩, -⟩ := id hI
  obtain ⟨hc, hm, hn⟩ := rt_F h
  have n1 : np < 2 ^ 31 := by omega
  have i39 : isI 39 6 := rfl
  obtain ⟨r, z1, ⟨o, hr, ht, hf, pk, sr⟩, e1⟩ := Hr_use (x_findBest E d h)
  subst hr
  have z1130 : z1.1 130 = z.1 130 := hf 130 (by omega)
  cases o with
  | none =>
    obtain ⟨r2, z3, ⟨hr2, ht2, hf2, o2, pk2, sm2⟩, e3⟩ := Hr_use (m_findBest E (d + 5) (z0 := (set2 z1.1 23 1 (z1.1 23 1 + 1), z1.2)) h (by show set2 z1.1 23 1 (z1.1 23 1 + 1) 130 = _; rw [set2_a (by decide)]; exact z1130))
    subst hr2
    have eo := Pk_uniq pk pk2
    subst eo
    have e14 : z3.1 129 14 = 0 := sm2
    have ebI : bI (none : Option Nat).isSome = 0 := rfl
    rw [ebI] at e1
    refine ⟨-3, (set2 z1.1 23 1 (z1.1 23 1 + 1), z1.2), (set2 z3.1 132 1 (z3.1 132 1 + 1), z3.2), fun K => ?_, fun K => ?_, ?_⟩
    · simp only [↓c_X8_takeBest, ↓e_X8_takeBest_0, ↓e_X8_takeBest_4, ↓e_X8_takeBest_8, ↓e_X8_takeBest_11, ↓e_X8_takeBest_14, ↓e_X8_takeBest_22, ↓e_X8_takeBest_23, ↓e_X8_takeBest_30, ↓e_X8_takeBest_33, ↓e_X8_takeBest_36, ↓e_X8_takeBest_39, ↓e_X8_takeBest_43, ↓e_X8_takeBest_46, ↓e_X8_takeBest_51, ↓e_X8_takeBest_54, ↓e_X8_takeBest_56, ↓e_X8_takeBest_57, ↓e_X8_takeBest_63, ↓e_X8_takeBest_67, ↓e_X8_takeBest_70, g8 o8_0, v8 o8_0, v0 o0_38, Nat.reduceAdd, e1, x_no, zps_s, zk_i, zk_r, zk_n, ↓reduceIte]
    · simp only [↓c_X9_takeBest, ↓e_X9_takeBest_0, ↓e_X9_takeBest_4, ↓e_X9_takeBest_8, ↓e_X9_takeBest_11, ↓e_X9_takeBest_18, ↓e_X9_takeBest_19, ↓e_X9_takeBest_26, ↓e_X9_takeBest_29, ↓e_X9_takeBest_32, ↓e_X9_takeBest_36, ↓e_X9_takeBest_44, ↓e_X9_takeBest_46, ↓e_X9_takeBest_47, ↓e_X9_takeBest_53, ↓e_X9_takeBest_57, g9 o9_129, v9 o9_129, Nat.reduceAdd, e3, e14, m_r1, zps_s, zps_n, zk_i, zk_r, zk_n, ↓reduceIte]
    · refine Inv_ref3 hI 1 (fun r hr h2 h3 => ?_) ?_ ?_ ?_
      · dsimp only
        rw [set2_a h3, hf2 r (by omega) (by omega) (by omega) (by omega)]
        dsimp only
        rw [set2_a h2, hf r (by omega)]
      · dsimp only
        rw [set2_a (by decide), hf2 23 (by decide) (by decide) (by decide) (by decide)]
        dsimp only
        rw [set2_R, setR_s, hf 23 (by omega)]
      · dsimp only
        rw [set2_R, setR_s, hf2 132 (by decide) (by decide) (by decide) (by decide)]
        dsimp only
        rw [set2_a (by decide), hf 132 (by omega)]
      · show z3.2.1 = z.2.1
        rw [ht2, ht]
  | some j =>
    obtain ⟨G, hG⟩ : ∃ G : Nat → Int32, G = itr (fun p g => upd g p (nI (dg nc np j p))) np (z1.1 14) := ⟨_, rfl⟩
    have G14 : ∀ p, p < np → G p = nI (dg nc np j p) := fun p hp => by rw [hG, itr_updv (fun p => nI (dg nc np j p)), if_pos hp]
    have rG : ∀ r, r ≠ 14 → setR z1.1 14 G r = z1.1 r := fun r hr => setR_n hr _ _
    obtain ⟨r2, z3, ⟨hr2, ht2, hf2, o2, pk2, sm2⟩, e3⟩ := Hr_use (m_findBest E (d + 5) (z0 := (setR z1.1 14 G, z1.2)) h (by show setR z1.1 14 G 130 = _; rw [rG 130 (by decide)]; exact z1130))
    subst hr2
    have eo := Pk_uniq pk pk2
    subst eo
    have ebI : bI (some j : Option Nat).isSome = 1 := rfl
    rw [ebI] at e1
    have e14 : z3.1 129 14 = 1 := sm2.1
    have z3130 : z3.1 130 = z.1 130 := by
      rw [hf2 130 (by decide) (by decide) (by decide) (by decide)]
      exact (rG 130 (by decide)).trans z1130
    obtain ⟨H, hH⟩ : ∃ H : Nat → Int32, H = itr (fun p g => upd g (18 + p) (nI (dg nc np j p))) np (z3.1 130) := ⟨_, rfl⟩
    have Hv : ∀ n k, itr (fun p g => upd g (18 + p) (nI (dg nc np j p))) n (z3.1 130) k = if 18 ≤ k ∧ k < 18 + n then nI (dg nc np j (k - 18)) else z3.1 130 k := fun n k => by
      induction n with
      | zero =>
        rw [if_neg (by omega)]
        rfl
      | succ n ih =>
        rw [itr_s]
        unfold upd
        by_cases e : k = 18 + n
        · subst e
          rw [if_pos rfl, if_pos (by omega), show 18 + n - 18 = n by omega]
        · rw [if_neg e]
          unfold upd at ih
          rw [ih]
          by_cases q : 18 ≤ k ∧ k < 18 + n
          · rw [if_pos q, if_pos (by omega)]
          · rw [if_neg q, if_neg (by omega)]
    refine ⟨iI (scd nc np (fitI z) j), (setR z1.1 14 G, z1.2), (setR z3.1 130 H, z3.2), fun K => ?_, fun K => ?_, ?_⟩
    · have l := itr_eq (fun i g => Ev E (d + 10) zm_X8_takeBest 25 [some (.ref 0), some (.int (nI i))] [] (HP (setR z1.1 14 g, z1.2)) K) (fun p g => upd g p (nI (dg nc np j p))) (z1.1 14) np (fun i hi => by
        generalize itr _ i _ = g
        have e2 : setR z1.1 14 g 2 0 = nI np := by rw [setR_n (by decide), hf 2 (by omega)]; exact hc.1
        have e39 : setR z1.1 14 g 39 i = nI (dg nc np j i) := by rw [setR_n (by decide)]; exact sr.2.2 i hi
        rw [e_X8_takeBest_25]
        simp only [↓e_X8_takeBest_4, ↓e_X8_takeBest_8, ↓e_X8_takeBest_11, ↓e_X8_takeBest_14, ↓e_X8_takeBest_22, ↓e_X8_takeBest_23, ↓e_X8_takeBest_30, ↓e_X8_takeBest_33, ↓e_X8_takeBest_36, ↓e_X8_takeBest_39, ↓e_X8_takeBest_43, ↓e_X8_takeBest_46, ↓e_X8_takeBest_51, ↓e_X8_takeBest_54, ↓e_X8_takeBest_56, ↓e_X8_takeBest_57, ↓e_X8_takeBest_63, ↓e_X8_takeBest_67, ↓e_X8_takeBest_70, g8 o8_0, g7 o7_1, g6 o6_2, g0 o0_38, Nat.reduceAdd, e2, e39, ri_k i39 (show i < 6 by omega) (by decide), wi_k i14 (show i < 6 by omega) (by decide), set2_R, setR_s, setR_2, zk_i, zk_r, zk_n, nI_lt_iff (show i < 2 ^ 31 by omega) n1, hi, ↓reduceIte, nI_1])
      rw [nI_0, setR_id, ← hG] at l
      simp only [↓c_X8_takeBest, ↓e_X8_takeBest_0, ↓e_X8_takeBest_4, ↓e_X8_takeBest_8, ↓e_X8_takeBest_11, ↓e_X8_takeBest_14, ↓e_X8_takeBest_22, ↓e_X8_takeBest_23, ↓e_X8_takeBest_30, ↓e_X8_takeBest_33, ↓e_X8_takeBest_36, ↓e_X8_takeBest_39, ↓e_X8_takeBest_43, ↓e_X8_takeBest_46, ↓e_X8_takeBest_51, ↓e_X8_takeBest_54, ↓e_X8_takeBest_56, ↓e_X8_takeBest_57, ↓e_X8_takeBest_63, ↓e_X8_takeBest_67, ↓e_X8_takeBest_70, g8 o8_0, v0 o0_38, Nat.reduceAdd, e1, i01, zps_s, zk_i, zk_r, zk_n, ↓reduceIte]
      have e2 : setR z1.1 14 G 2 0 = nI np := by rw [setR_n (by decide), hf 2 (by omega)]; exact hc.1
      have e38 : setR z1.1 14 G 38 1 = iI (scd nc np (fitI z) j) := by rw [setR_n (by decide)]; exact sr.2.1
      rw [l, e_X8_takeBest_25]
      simp only [↓e_X8_takeBest_4, ↓e_X8_takeBest_8, ↓e_X8_takeBest_11, ↓e_X8_takeBest_14, ↓e_X8_takeBest_22, ↓e_X8_takeBest_23, ↓e_X8_takeBest_30, ↓e_X8_takeBest_33, ↓e_X8_takeBest_36, ↓e_X8_takeBest_39, ↓e_X8_takeBest_43, ↓e_X8_takeBest_46, ↓e_X8_takeBest_51, ↓e_X8_takeBest_54, ↓e_X8_takeBest_56, ↓e_X8_takeBest_57, ↓e_X8_takeBest_63, ↓e_X8_takeBest_67, ↓e_X8_takeBest_70, g8 o8_0, g7 o7_1, g6 o6_2, g0 o0_38, Nat.reduceAdd, e2, e38, zk_i, zk_r, zk_n, nI_lt_iff n1 n1, Nat.lt_irrefl, ↓reduceIte]
    · have l := itr_eq (fun i g => Ev E (d + 10) zm_X9_takeBest 21 [some (.ref 129), some (.int (nI i))] [] (HP (setR z3.1 130 g, z3.2)) K) (fun p g => upd g (18 + p) (nI (dg nc np j p))) (z3.1 130) np (fun i hi => by
        have hgk : itr (fun p g => upd g (18 + p) (nI (dg nc np j p))) i (z3.1 130) 104 = nI np := by
          rw [Hv, if_neg (by omega), z3130]
          exact hm.1
        generalize itr _ i _ = g at hgk
        have e104 : setR z3.1 130 g 130 104 = nI np := by rw [setR_s]; exact hgk
        have e136 : setR z3.1 130 g 136 i = nI (dg nc np j i) := by rw [setR_n (by decide)]; exact sm2.2.2.2 i hi
        have e18 : (18 : Int32) + nI i = nI (18 + i) := nI_add 18 i
        rw [e_X9_takeBest_21]
        simp only [↓e_X9_takeBest_4, ↓e_X9_takeBest_8, ↓e_X9_takeBest_11, ↓e_X9_takeBest_18, ↓e_X9_takeBest_19, ↓e_X9_takeBest_26, ↓e_X9_takeBest_29, ↓e_X9_takeBest_32, ↓e_X9_takeBest_36, ↓e_X9_takeBest_44, ↓e_X9_takeBest_46, ↓e_X9_takeBest_47, ↓e_X9_takeBest_53, ↓e_X9_takeBest_57, g9 o9_129, Nat.reduceAdd, stL, e104, e136, e18, ri_k i136 (show i < 6 by omega) (by decide), wi_k i130 (show 18 + i < 1083 by omega) (by decide), set2_R, setR_s, setR_2, zk_i, zk_r, zk_n, nI_lt_iff (show i < 2 ^ 31 by omega) n1, hi, ↓reduceIte, nI_1])
      rw [nI_0, setR_id, ← hH] at l
      simp only [↓c_X9_takeBest, ↓e_X9_takeBest_0, ↓e_X9_takeBest_4, ↓e_X9_takeBest_8, ↓e_X9_takeBest_11, ↓e_X9_takeBest_18, ↓e_X9_takeBest_19, ↓e_X9_takeBest_26, ↓e_X9_takeBest_29, ↓e_X9_takeBest_32, ↓e_X9_takeBest_36, ↓e_X9_takeBest_44, ↓e_X9_takeBest_46, ↓e_X9_takeBest_47, ↓e_X9_takeBest_53, ↓e_X9_takeBest_57, g9 o9_129, v9 o9_129, Nat.reduceAdd, e3, e14, i01, zps_n, zk_i, zk_r, zk_n, ↓reduceIte]
      have e104 : setR z3.1 130 H 130 104 = nI np := by
        rw [setR_s, hH, Hv, if_neg (by omega), z3130]
        exact hm.1
      have e12 : setR z3.1 130 H 129 12 = iI (scd nc np (fitI z) j) := by rw [setR_n (by decide)]; exact sm2.2.1
      rw [l, e_X9_takeBest_21]
      simp only [↓e_X9_takeBest_4, ↓e_X9_takeBest_8, ↓e_X9_takeBest_11, ↓e_X9_takeBest_18, ↓e_X9_takeBest_19, ↓e_X9_takeBest_26, ↓e_X9_takeBest_29, ↓e_X9_takeBest_32, ↓e_X9_takeBest_36, ↓e_X9_takeBest_44, ↓e_X9_takeBest_46, ↓e_X9_takeBest_47, ↓e_X9_takeBest_53, ↓e_X9_takeBest_57, g9 o9_129, Nat.reduceAdd, stL, e104, e12, zk_i, zk_r, zk_n, nI_lt_iff n1 n1, Nat.lt_irrefl, ↓reduceIte]
    · have fz : ∀ r, r ≠ 14 → r ≠ 129 → r ≠ 130 → r ≠ 134 → r ≠ 135 → r ≠ 136 → (r < 38 ∨ 44 < r) → setR z3.1 130 H r = z.1 r := fun r h1 h2 h3 h4 h5 h6 h7 => by
        rw [setR_n h3, hf2 r h2 h4 h5 h6]
        exact (rG r h1).trans (hf r h7)
      refine Inv_upd (z := z) ⟨np, nc, ns, nl, ny, ch, ea, RT_cast (D := dg nc np j) h (fun p hp => dg_lt ?_ np j p) (fun p hp => ?_) (fun k hk => ?_) (fun r h1 h2 h3 => fz r h3 (by omega) (by omega) (by omega) (by omega) (by omega) (by omega))⟩ (fun r hr => fz r (by omega) (by omega) (by omega) (by omega) (by omega) (by omega) (by omega)) (fun k hk => ?_) ?_ ?_ ?_ hI
      · have := pk.1
        rcases Nat.eq_zero_or_pos nc with e | e
        · rw [e, Nat.zero_pow (by omega)] at this
          omega
        · exact e
      · show setR z3.1 130 H 14 p = _
        rw [setR_n (by decide), hf2 14 (by decide) (by decide) (by decide) (by decide)]
        show setR z1.1 14 G 14 p = _
        rw [setR_s]
        exact G14 p hp
      · show setR z3.1 130 H 130 k = _
        rw [setR_s, hH, Hv, z3130]
      · show setR z3.1 130 H 130 k = _
        rw [setR_s, hH, Hv, if_neg (by omega), z3130]
      · show z3.2.1 22 = z.2.1 22
        rw [ht2, ht]
      · show z3.2.1 129 17 = z.2.1 129 17
        rw [ht2, ht]
      · show z3.2.1 129 18 = z.2.1 129 18
        rw [ht2, ht]
