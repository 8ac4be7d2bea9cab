/-! type -/
def tyF (v : Int64) : Nat → Nat → (Nat → Nat → Int32) → Nat → Nat → Int32
  | 0, _, f => f
  | k + 1, l, f => tyF v k (l + 1) (set2 (set2 f 18 l (nI (byN v k))) 1 8 (nI (l + 1)))
def tyG (v : Int64) : Nat → Nat → (Nat → Nat → Int32) → Nat → Nat → Int32
  | 0, _, f => f
  | k + 1, l, f => tyG v k (l + 1) (set2 (set2 f 130 (121 + l) (nI (byN v k))) 130 120 (nI (l + 1)))
theorem m1_add (x : Int32) : x + (-1) = x - 1 := (Int32.sub_eq_add_neg x 1).symm
theorem x_typeL (E : zE) (d : Nat) (v : Int64) (n : Int32) (t : (Nat → Nat → Int64) × Nat) (K : Option Value → zH → Prop) : ∀ k l (f : Nat → Nat → Int32), k ≤ 8 → l + k ≤ 240 → f 1 8 = nI l → Ev E (d + 1) zm_X8_type 49 [some (.ref 0), some (.long v), none, some (.int n), some (.int (nI k - 1))] [] (HP (f, t)) K = K (some (.int (nI (l + k)))) (HP (tyF v k l f, t))
  | 0, l, f, _, _, hf => by
    rw [e_X8_type_49]
    simp only [↓e_X8_type_5, ↓e_X8_type_11, ↓e_X8_type_19, ↓e_X8_type_20, ↓e_X8_type_24, ↓e_X8_type_27, ↓e_X8_type_35, ↓e_X8_type_43, ↓e_X8_type_44, ↓e_X8_type_54, ↓e_X8_type_58, ↓e_X8_type_73, ↓e_X8_type_79, ↓e_X8_type_83, ↓e_X8_type_86, nIm_lt (show 0 < 2 ^ 31 by decide), g8 o8_0, g7 o7_1, Nat.reduceAdd, hf, zk_i, zk_r, zk_n, ↓reduceIte, Nat.add_zero, tyF]
  | k + 1, l, f, h8, hl, hf => by
    have ih := x_typeL E d v n t K k (l + 1) (set2 (set2 f 18 l (nI (byN v k))) 1 8 (nI (l + 1))) (by omega) (by omega) (set2_s _ _ _ _)
    have ad := t_addByte isT_1 (n := l) (by omega) (z := (f, t)) hf E d (nI (byN v k))
    rw [e_X8_type_49]
    simp only [↓e_X8_type_5, ↓e_X8_type_11, ↓e_X8_type_19, ↓e_X8_type_20, ↓e_X8_type_24, ↓e_X8_type_27, ↓e_X8_type_35, ↓e_X8_type_43, ↓e_X8_type_44, ↓e_X8_type_54, ↓e_X8_type_58, ↓e_X8_type_73, ↓e_X8_type_79, ↓e_X8_type_83, ↓e_X8_type_86, nI_pred, nI_neg (show k < 2 ^ 31 by omega), g8 o8_0, v7 o7_1, Nat.reduceAdd, by_x v (show k < 8 by omega), ad, zps_n, m1_add, zk_i, zk_r, zk_l, zk_n, ↓reduceIte]
    rw [ih, show l + 1 + k = l + (k + 1) by omega]
    rfl
theorem m_typeL (E : zE) (d : Nat) (v : Int64) (n : Int32) (t : (Nat → Nat → Int64) × Nat) (K : Option Value → zH → Prop) : ∀ k l (f : Nat → Nat → Int32), k ≤ 8 → l + k ≤ 240 → f 130 120 = nI l → Ev E (d + 1) zm_X9_type 45 [some (.ref 129), some (.long v), none, some (.int n), some (.int (nI k - 1))] [] (HP (f, t)) K = K (some (.int (nI (l + k)))) (HP (tyG v k l f, t))
  | 0, l, f, _, _, hf => by
    rw [e_X9_type_45]
    simp only [↓e_X9_type_9, ↓e_X9_type_12, ↓e_X9_type_16, ↓e_X9_type_17, ↓e_X9_type_21, ↓e_X9_type_24, ↓e_X9_type_32, ↓e_X9_type_39, ↓e_X9_type_40, ↓e_X9_type_50, ↓e_X9_type_54, ↓e_X9_type_60, ↓e_X9_type_63, ↓e_X9_type_77, ↓e_X9_type_81, ↓e_X9_type_85, ↓e_X9_type_88, ↓e_X9_type_94, ↓e_X9_type_98, ↓e_X9_type_101, nIm_lt (show 0 < 2 ^ 31 by decide), g9 o9_129, Nat.reduceAdd, stL, hf, zk_i, zk_r, zk_n, ↓reduceIte, Nat.add_zero, tyG]
  | k + 1, l, f, h8, hl, hf => by
    have ih := m_typeL E d v n t K k (l + 1) (set2 (set2 f 130 (121 + l) (nI (byN v k))) 130 120 (nI (l + 1))) (by omega) (by omega) (set2_s _ _ _ _)
    have e1 : (121 : Int32) + nI l = nI (121 + l) := nI_add 121 l
    have e2 : set2 f 130 (121 + l) (nI (byN v k)) 130 120 = nI l := by rw [set2_n (Or.inr (by omega))]; exact hf
    rw [e_X9_type_45]
    simp only [↓e_X9_type_9, ↓e_X9_type_12, ↓e_X9_type_16, ↓e_X9_type_17, ↓e_X9_type_21, ↓e_X9_type_24, ↓e_X9_type_32, ↓e_X9_type_39, ↓e_X9_type_40, ↓e_X9_type_50, ↓e_X9_type_54, ↓e_X9_type_60, ↓e_X9_type_63, ↓e_X9_type_77, ↓e_X9_type_81, ↓e_X9_type_85, ↓e_X9_type_88, ↓e_X9_type_94, ↓e_X9_type_98, ↓e_X9_type_101, nI_pred, nI_neg (show k < 2 ^ 31 by omega), g9 o9_129, Nat.reduceAdd, stL, w120, hf, e1, e2, wi_k i130 (show 121 + l < 1083 by omega) (by decide), by_m v (show k < 8 by omega), nI_1, m1_add, zk_i, zk_r, zk_l, zk_n, ↓reduceIte]
    rw [ih, show l + 1 + k = l + (k + 1) by omega]
    rfl
theorem tyF_r (v : Int64) {r : Nat} (h1 : r ≠ 1) (h2 : r ≠ 18) : ∀ k l f, tyF v k l f r = f r
  | 0, _, _ => rfl
  | k + 1, l, f => by
    show tyF v k (l + 1) _ r = f r
    rw [tyF_r v h1 h2 k, set2_a h1, set2_a h2]
theorem tyF_1 (v : Int64) {x : Nat} (h : x ≠ 8) : ∀ k l f, tyF v k l f 1 x = f 1 x
  | 0, _, _ => rfl
  | k + 1, l, f => by
    show tyF v k (l + 1) _ 1 x = f 1 x
    rw [tyF_1 v h k, set2_n (Or.inr h), set2_n (Or.inl (by decide))]
theorem tyF_8 (v : Int64) : ∀ k l f, f 1 8 = nI l → tyF v k l f 1 8 = nI (l + k)
  | 0, l, f, h => h
  | k + 1, l, f, h => by
    show tyF v k (l + 1) _ 1 8 = _
    rw [tyF_8 v k (l + 1) _ (set2_s _ _ _ _), show l + 1 + k = l + (k + 1) by omega]
theorem tyF_18 (v : Int64) (x : Nat) : ∀ k l f, tyF v k l f 18 x = if l ≤ x ∧ x < l + k then nI (byN v (l + k - 1 - x)) else f 18 x
  | 0, l, f => by
    rw [if_neg (by omega)]
    rfl
  | k + 1, l, f => by
    show tyF v k (l + 1) _ 18 x = _
    rw [tyF_18 v x k, set2_a (by decide)]
    by_cases e : x = l
    · subst e
      rw [if_neg (by omega), if_pos (by omega), set2_s, show x + (k + 1) - 1 - x = k by omega]
    · rw [set2_n (Or.inr e)]
      by_cases q : l + 1 ≤ x ∧ x < l + 1 + k
      · rw [if_pos q, if_pos (by omega), show l + 1 + k - 1 - x = l + (k + 1) - 1 - x by omega]
      · rw [if_neg q, if_neg (by omega)]
theorem tyG_r (v : Int64) {r : Nat} (h1 : r ≠ 130) : ∀ k l f, tyG v k l f r = f r
  | 0, _, _ => rfl
  | k + 1, l, f => by
    show tyG v k (l + 1) _ r = f r
    rw [tyG_r v h1 k, set2_a h1, set2_a h1]
theorem tyG_8 (v : Int64) : ∀ k l f, f 130 120 = nI l → tyG v k l f 130 120 = nI (l + k)
  | 0, l, f, h => h
  | k + 1, l, f, h => by
    show tyG v k (l + 1) _ 130 120 = _
    rw [tyG_8 v k (l + 1) _ (set2_s _ _ _ _), show l + 1 + k = l + (k + 1) by omega]
theorem tyG_x (v : Int64) {x : Nat} (hx : x ≠ 120) : ∀ k l f, tyG v k l f 130 x = if 121 + l ≤ x ∧ x < 121 + l + k then nI (byN v (121 + l + k - 1 - x)) else f 130 x
  | 0, l, f => by
    rw [if_neg (by omega)]
    rfl
  | k + 1, l, f => by
    show tyG v k (l + 1) _ 130 x = _
    rw [tyG_x v hx k, set2_n (Or.inr hx)]
    by_cases e : x = 121 + l
    · subst e
      rw [if_neg (by omega), if_pos (by omega), set2_s, show 121 + l + (k + 1) - 1 - (121 + l) = k by omega]
    · rw [set2_n (Or.inr e)]
      by_cases q : 121 + (l + 1) ≤ x ∧ x < 121 + (l + 1) + k
      · rw [if_pos q, if_pos (by omega), show 121 + (l + 1) + k - 1 - x = 121 + l + (k + 1) - 1 - x by omega]
      · rw [if_neg q, if_neg (by omega)]
theorem op_type (E : zE) (d : Nat) {z : zS} (hI : Inv z) (v : Int64) (n : Int32) : OpI E (d + 2) 85 134 [.long v, .int n] z := by
  obtain ⟨⟨np, nc, ns, nl, ny, ch, ea, h⟩, -⟩ := id hI
  obtain ⟨hc, hm, hn⟩ := rt_F h
  rcases inL_c (x := n) 1 8 m_d1 m_d8 (by decide) (by decide) with ⟨hv, j, j1, j2, rfl⟩ | ⟨hv, hv2⟩
  · have q1 : (nI j < (1 : Int32)) = False := eq_false (nI_nlt (b := 1) (by omega) (by omega))
    have q8 : ((8 : Int32) < nI j) = False := eq_false (nI_nlt (a := 8) (by omega) (by decide))
    have q240 : ((240 : Int32) < nI (nl + j)) = (240 < nl + j) := by
      have e : (240 : Int32) = nI 240 := rfl
      rw [e]
      exact nI_lt_iff (by decide) (by omega)
    by_cases hf : 240 < nl + j
    · refine op_ref hI 2 (-4) (fun K => ?_) (fun z1 K hr e => ?_)
      · simp only [↓c_X8_type, ↓e_X8_type_0, ↓e_X8_type_5, ↓e_X8_type_11, ↓e_X8_type_19, ↓e_X8_type_20, ↓e_X8_type_24, ↓e_X8_type_27, ↓e_X8_type_35, ↓e_X8_type_43, ↓e_X8_type_44, ↓e_X8_type_54, ↓e_X8_type_58, ↓e_X8_type_73, ↓e_X8_type_79, ↓e_X8_type_83, ↓e_X8_type_86, q1, q8, g8 o8_0, g7 o7_1, v8 o8_0, Nat.reduceAdd, hc.2.2.2.2.2.1, nI_add, q240, hf, x_full, zps_s, zk_i, zk_r, zk_n, ↓reduceIte]
      · simp only [↓c_X9_type, ↓e_X9_type_0, ↓e_X9_type_9, ↓e_X9_type_12, ↓e_X9_type_16, ↓e_X9_type_17, ↓e_X9_type_21, ↓e_X9_type_24, ↓e_X9_type_32, ↓e_X9_type_39, ↓e_X9_type_40, ↓e_X9_type_50, ↓e_X9_type_54, ↓e_X9_type_60, ↓e_X9_type_63, ↓e_X9_type_77, ↓e_X9_type_81, ↓e_X9_type_85, ↓e_X9_type_88, ↓e_X9_type_94, ↓e_X9_type_98, ↓e_X9_type_101, m_in, hv, g9 o9_129, v9 o9_129, Nat.reduceAdd, stL, hr 130 (by decide), hm.2.2.2.2.2.1, nI_add, q240, hf, m_r2, zps_s, bI_0, zk_i, zk_r, zk_n, reduceCtorEq, ↓reduceIte]
    · refine ⟨nI (nl + j), (tyF v j nl z.1, z.2), (tyG v j nl (tyF v j nl z.1), z.2), fun K => ?_, fun K => ?_, ?_⟩
      · have lp := x_typeL E (d + 1) v (nI j) z.2 K j nl z.1 j2 (by omega) hc.2.2.2.2.2.1
        simp only [↓c_X8_type, ↓e_X8_type_0, ↓e_X8_type_5, ↓e_X8_type_11, ↓e_X8_type_19, ↓e_X8_type_20, ↓e_X8_type_24, ↓e_X8_type_27, ↓e_X8_type_35, ↓e_X8_type_43, ↓e_X8_type_44, ↓e_X8_type_54, ↓e_X8_type_58, ↓e_X8_type_73, ↓e_X8_type_79, ↓e_X8_type_83, ↓e_X8_type_86, q1, q8, g8 o8_0, g7 o7_1, Nat.reduceAdd, hc.2.2.2.2.2.1, nI_add, q240, hf, lp, zk_i, zk_r, zk_n, ↓reduceIte]
      · have e120 : tyF v j nl z.1 130 120 = nI nl := by rw [tyF_r v (by decide) (by decide)]; exact hm.2.2.2.2.2.1
        have lp := m_typeL E (d + 1) v (nI j) z.2 K j nl (tyF v j nl z.1) j2 (by omega) e120
        simp only [↓c_X9_type, ↓e_X9_type_0, ↓e_X9_type_9, ↓e_X9_type_12, ↓e_X9_type_16, ↓e_X9_type_17, ↓e_X9_type_21, ↓e_X9_type_24, ↓e_X9_type_32, ↓e_X9_type_39, ↓e_X9_type_40, ↓e_X9_type_50, ↓e_X9_type_54, ↓e_X9_type_60, ↓e_X9_type_63, ↓e_X9_type_77, ↓e_X9_type_81, ↓e_X9_type_85, ↓e_X9_type_88, ↓e_X9_type_94, ↓e_X9_type_98, ↓e_X9_type_101, m_in, hv, g9 o9_129, Nat.reduceAdd, stL, e120, nI_add, q240, hf, lp, zps_s, bI_0, zk_i, zk_r, zk_n, reduceCtorEq, ↓reduceIte]
      · have gr : ∀ r, r ≠ 130 → r ≠ 1 → r ≠ 18 → tyG v j nl (tyF v j nl z.1) r = z.1 r := fun r h1 h2 h3 => by rw [tyG_r v h1, tyF_r v h2 h3]
        have g1 : ∀ x, x ≠ 8 → tyG v j nl (tyF v j nl z.1) 1 x = z.1 1 x := fun x hx => by rw [tyG_r v (by decide), tyF_1 v hx]
        have gs : ∀ k, k ≠ 120 → ¬ (121 + nl ≤ k ∧ k < 121 + nl + j) → tyG v j nl (tyF v j nl z.1) 130 k = z.1 130 k := fun k h1 h2 => by rw [tyG_x v h1, if_neg h2, tyF_r v (by decide) (by decide)]
        refine Inv_upd (z := z) ⟨np, nc, ns, nl + j, ny, ch, ea, ?_⟩ (fun r hr => gr r (by omega) (by omega) (by omega)) (fun k hk => gs k (by omega) (by omega)) rfl rfl rfl hI
        obtain ⟨h0, hP, hC, hN, hB, hY⟩ := h
        have eA : ∀ j' i, 1 ≤ j' → j' ≠ 17 → j' ≤ 18 → tyG v j nl (tyF v j nl z.1) (j' + 1) i = z.1 (j' + 1) i := fun j' i h1 h2 h3 => congrFun (gr _ (by omega) (by omega) (by omega)) i
        have eS : ∀ k, k ≠ 120 → ¬ (121 + nl ≤ k ∧ k < 121 + nl + j) → tyG v j nl (tyF v j nl z.1) 130 (k + 0) = z.1 130 (k + 0) := fun k => gs k
        refine ⟨?_, fun p hp => rP_c (fun j hj => eA j p (by omega) (by omega) (by omega)) (fun k hk => eS k (by omega) (by omega)) (by omega) (hP p hp), fun c hc => rC_c (fun j i hj => eA j i (by omega) (by omega) (by omega)) (fun k _ hk => eS k (by omega) (by omega)) (by omega) (hC c hc), fun i hi => rN_c (fun j hj => eA j i (by omega) (by omega) (by omega)) (fun k _ hk => eS k (by omega) (by omega)) (by omega) (hN i hi), fun i hi => ?_, fun i hi => rY_c (eA 18 i (by omega) (by omega) (by omega)) (eS _ (by omega) (by omega)) (hY i (by omega))⟩
        · unfold rF
          dsimp only
          rw [eA 1 0 (by omega) (by omega) (by omega), eA 1 4 (by omega) (by omega) (by omega), eA 1 11 (by omega) (by omega) (by omega), eS 104 (by omega) (by omega), eS 105 (by omega) (by omega), eS 106 (by omega) (by omega), eS 107 (by omega) (by omega), eS 108 (by omega) (by omega), eS 109 (by omega) (by omega)]
          refine ⟨⟨hc.1, hc.2.1, hc.2.2.1, ?_, ?_, ?_, ?_⟩, ⟨hm.1, hm.2.1, hm.2.2.1, hm.2.2.2.1, hm.2.2.2.2.1, ?_, hm.2.2.2.2.2.2⟩, hn.1, hn.2.1, hn.2.2.1, hn.2.2.2.1, hn.2.2.2.2.1, by omega, hn.2.2.2.2.2.2⟩
          · exact (g1 5 (by decide)).trans hc.2.2.2.1
          · exact (g1 6 (by decide)).trans hc.2.2.2.2.1
          · show tyG v j nl (tyF v j nl z.1) 1 8 = _
            rw [tyG_r v (by decide), tyF_8 v _ _ _ hc.2.2.2.2.2.1]
          · exact (g1 10 (by decide)).trans hc.2.2.2.2.2.2
          · show tyG v j nl (tyF v j nl z.1) 130 120 = _
            rw [tyG_8 v]
            rw [tyF_r v (by decide) (by decide)]
            exact hm.2.2.2.2.2.1
        · have e1 : tyG v j nl (tyF v j nl z.1) 18 i = if nl ≤ i ∧ i < nl + j then nI (byN v (nl + j - 1 - i)) else z.1 18 i := by rw [tyG_r v (by decide), tyF_18]
          have e2 : tyG v j nl (tyF v j nl z.1) 130 (121 + i) = if nl ≤ i ∧ i < nl + j then nI (byN v (nl + j - 1 - i)) else z.1 130 (121 + i) := by
            rw [tyG_x v (by omega), tyF_r v (by decide) (by decide)]
            by_cases q : nl ≤ i ∧ i < nl + j
            · rw [if_pos q, if_pos (by omega), show 121 + nl + j - 1 - (121 + i) = nl + j - 1 - i by omega]
            · rw [if_neg q, if_neg (by omega)]
          show tyG v j nl (tyF v j nl z.1) 18 i = tyG v j nl (tyF v j nl z.1) 130 (121 + i) ∧ rg (tyG v j nl (tyF v j nl z.1) 130 (121 + i)) 0 255
          rw [e1, e2]
          by_cases q : nl ≤ i ∧ i < nl + j
          · rw [if_pos q, if_pos q]
            exact ⟨rfl, _, Nat.zero_le _, by have := byN_lt v (nl + j - 1 - i); omega, rfl⟩
          · rw [if_neg q, if_neg q]
            exact hB i (by omega)
  · refine op_ref hI 0 (-2) (fun K => ?_) (fun z1 K hr e => ?_)
    · by_cases q : n < 1
      · simp only [↓c_X8_type, ↓e_X8_type_0, ↓e_X8_type_5, ↓e_X8_type_11, ↓e_X8_type_19, ↓e_X8_type_20, ↓e_X8_type_24, ↓e_X8_type_27, ↓e_X8_type_35, ↓e_X8_type_43, ↓e_X8_type_44, ↓e_X8_type_54, ↓e_X8_type_58, ↓e_X8_type_73, ↓e_X8_type_79, ↓e_X8_type_83, ↓e_X8_type_86, q, v8 o8_0, Nat.reduceAdd, x_bad, zps_s, zk_i, zk_r, zk_n, ↓reduceIte]
      · have q1 : (8 : Int32) < n := hv2.resolve_left q
        simp only [↓c_X8_type, ↓e_X8_type_0, ↓e_X8_type_5, ↓e_X8_type_11, ↓e_X8_type_19, ↓e_X8_type_20, ↓e_X8_type_24, ↓e_X8_type_27, ↓e_X8_type_35, ↓e_X8_type_43, ↓e_X8_type_44, ↓e_X8_type_54, ↓e_X8_type_58, ↓e_X8_type_73, ↓e_X8_type_79, ↓e_X8_type_83, ↓e_X8_type_86, q, q1, v8 o8_0, Nat.reduceAdd, x_bad, zps_s, zk_i, zk_r, zk_n, ↓reduceIte]
    · simp only [↓c_X9_type, ↓e_X9_type_0, ↓e_X9_type_9, ↓e_X9_type_12, ↓e_X9_type_16, ↓e_X9_type_17, ↓e_X9_type_21, ↓e_X9_type_24, ↓e_X9_type_32, ↓e_X9_type_39, ↓e_X9_type_40, ↓e_X9_type_50, ↓e_X9_type_54, ↓e_X9_type_60, ↓e_X9_type_63, ↓e_X9_type_77, ↓e_X9_type_81, ↓e_X9_type_85, ↓e_X9_type_88, ↓e_X9_type_94, ↓e_X9_type_98, ↓e_X9_type_101, v9 o9_129, m_in, hv, zps_s, bI_0, m_bad, zk_i, zk_r, zk_n, ↓reduceIte]
