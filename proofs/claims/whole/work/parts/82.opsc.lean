/-! more calls: put, cast, behind, year, count, status, sign, limb -/
theorem inL_c {x : Int32} (lo hi : Nat) {l h : Int64} (hl : l.toInt = lo) (hh : h.toInt = hi) (h31 : hi < 2 ^ 31) (l31 : lo < 2 ^ 31) : (inL x.toInt64 l h = true ∧ ∃ n, lo ≤ n ∧ n ≤ hi ∧ x = nI n) ∨ (inL x.toInt64 l h = false ∧ (x < nI lo ∨ nI hi < x)) := by
  have key : inL x.toInt64 l h = true ↔ (lo : Int) ≤ x.toInt ∧ x.toInt ≤ hi := by rw [inL_t, Int32.toInt_toInt64, hl, hh]
  cases hb : inL x.toInt64 l h with
  | true =>
    have := key.mp hb
    refine Or.inl ⟨rfl, x.toInt.toNat, by omega, by omega, ?_⟩
    rw [iI_n, Int.toNat_of_nonneg (by omega)]
    exact iI_toI x
  | false =>
    refine Or.inr ⟨rfl, ?_⟩
    rw [Int32.lt_iff_toInt_lt, Int32.lt_iff_toInt_lt, nI_toInt l31, nI_toInt h31]
    refine Classical.byContradiction (fun q => ?_)
    have : inL x.toInt64 l h = true := key.mpr (by omega)
    rw [hb] at this
    cases this
theorem out_ne {x : Int32} {lo hi k : Nat} (h : x < nI lo ∨ nI hi < x) (h1 : lo ≤ k) (h2 : k ≤ hi) (h31 : hi < 2 ^ 31) : (x = nI k) = False := by
  refine eq_false (fun e => ?_)
  subst e
  rcases h with h | h
  · exact nI_nlt h1 (by omega) h
  · exact nI_nlt h2 h31 h
theorem m_d0 : (0 : Int64).toInt = ((0 : Nat) : Int) := by decide
theorem m_d1 : (1 : Int64).toInt = ((1 : Nat) : Int) := by decide
theorem m_d2 : (2 : Int64).toInt = ((2 : Nat) : Int) := by decide
theorem m_d3 : (3 : Int64).toInt = ((3 : Nat) : Int) := by decide
theorem m_d4 : (4 : Int64).toInt = ((4 : Nat) : Int) := by decide
theorem op_put (E : zE) (d : Nat) {z : zS} (hI : Inv z) (w v : Int32) : OpI E (d + 2) 88 148 [.int w, .int v] z := by
  obtain ⟨⟨np, nc, ns, nl, ny, ch, ea, h⟩, -⟩ := id hI
  obtain ⟨hc, hm, hn⟩ := rt_F h
  rcases inL_c (x := w) 0 1 m_d0 m_d1 (by decide) (by decide) with ⟨hw, k, -, hk, rfl⟩ | ⟨hw, hw2⟩
  · obtain rfl | rfl : k = 0 ∨ k = 1 := by omega
    · rcases inL_c (x := v) 0 3 m_d0 m_d3 (by decide) (by decide) with ⟨hv, j, -, hj, rfl⟩ | ⟨hv, hv2⟩
      · have e0 : nI 0 = 0 := rfl
        have e3 : ((3 : Int32) < nI j) = False := eq_false (nI_nlt (b := j) (a := 3) (by omega) (by decide))
        have e7 : (107 : Int32) + 0 = nI 107 := by decide
        refine ⟨nI ch, (set2 z.1 1 5 (nI j), z.2), (set2 (set2 z.1 1 5 (nI j)) 130 107 (nI j), z.2), fun K => ?_, fun K => ?_, ?_⟩
        · simp only [↓c_X8_put, ↓e_X8_put_0, ↓e_X8_put_4, ↓e_X8_put_8, ↓e_X8_put_13, ↓e_X8_put_17, ↓e_X8_put_20, ↓e_X8_put_25, ↓e_X8_put_29, ↓e_X8_put_31, ↓e_X8_put_36, ↓e_X8_put_40, ↓e_X8_put_45, ↓e_X8_put_49, ↓e_X8_put_52, ↓e_X8_put_57, ↓e_X8_put_61, ↓e_X8_put_63, ↓e_X8_put_71, e0, e3, nI_neg (show j < 2 ^ 31 by omega), g8 o8_0, g7 o7_1, p7 o7_1, Nat.reduceAdd, hc.2.2.2.1, zk_i, zk_r, zk_n, ↓reduceIte]
        · rw [e0] at hw
          simp only [↓c_X9_put, ↓e_X9_put_0, ↓e_X9_put_7, ↓e_X9_put_10, ↓e_X9_put_17, ↓e_X9_put_23, ↓e_X9_put_24, ↓e_X9_put_27, ↓e_X9_put_30, ↓e_X9_put_34, ↓e_X9_put_35, ↓e_X9_put_39, ↓e_X9_put_44, ↓e_X9_put_49, ↓e_X9_put_55, e0, m_in, hw, hv, zps_s, bI_0, e7, g9 o9_129, Nat.reduceAdd, st_k (show 107 < 1083 by decide), wi_k (k := 107) i130 (by decide) (by decide), set2_n (f := z.1) (o := 1) (j := 5) (a := 130) (k := 107) (x := nI j) (Or.inl (by decide)), hm.2.2.2.1, zk_i, zk_r, zk_n, reduceCtorEq, ↓reduceIte]
        · refine Inv_num (nl' := nl) (ny' := ny) (ch' := j) (ea' := ea) hI (by decide) (RT_num h (Nat.le_refl _) (Nat.le_refl _) (by decide) ?_)
          simp only [rF, Nat.reduceAdd, Nat.add_zero, set2, Nat.reduceEqDiff, and_true, and_false, false_and, true_and, ↓reduceIte]
          exact ⟨⟨hc.1, hc.2.1, hc.2.2.1, hc.2.2.2.2.1, hc.2.2.2.2.2.1, hc.2.2.2.2.2.2⟩, ⟨hm.1, hm.2.1, hm.2.2.1, hm.2.2.2.2.1, hm.2.2.2.2.2.1, hm.2.2.2.2.2.2⟩, hn.1, hn.2.1, hn.2.2.1, hj, hn.2.2.2.2.1, hn.2.2.2.2.2.1, hn.2.2.2.2.2.2⟩
      · refine op_ref hI 0 (-2) (fun K => ?_) (fun z1 K hr e => ?_)
        · have e0 : nI 0 = 0 := rfl
          by_cases q : v < 0
          · simp only [↓c_X8_put, ↓e_X8_put_0, ↓e_X8_put_4, ↓e_X8_put_8, ↓e_X8_put_13, ↓e_X8_put_17, ↓e_X8_put_20, ↓e_X8_put_25, ↓e_X8_put_29, ↓e_X8_put_31, ↓e_X8_put_36, ↓e_X8_put_40, ↓e_X8_put_45, ↓e_X8_put_49, ↓e_X8_put_52, ↓e_X8_put_57, ↓e_X8_put_61, ↓e_X8_put_63, ↓e_X8_put_71, e0, q, v8 o8_0, Nat.reduceAdd, i10, x_bad, zps_s, zk_i, zk_r, zk_n, ↓reduceIte]
          · have q3 : (3 : Int32) < v := hv2.resolve_left q
            simp only [↓c_X8_put, ↓e_X8_put_0, ↓e_X8_put_4, ↓e_X8_put_8, ↓e_X8_put_13, ↓e_X8_put_17, ↓e_X8_put_20, ↓e_X8_put_25, ↓e_X8_put_29, ↓e_X8_put_31, ↓e_X8_put_36, ↓e_X8_put_40, ↓e_X8_put_45, ↓e_X8_put_49, ↓e_X8_put_52, ↓e_X8_put_57, ↓e_X8_put_61, ↓e_X8_put_63, ↓e_X8_put_71, e0, q, q3, v8 o8_0, Nat.reduceAdd, i10, x_bad, zps_s, zk_i, zk_r, zk_n, ↓reduceIte]
        · have e0 : nI 0 = 0 := rfl
          rw [e0] at hw ⊢
          simp only [↓c_X9_put, ↓e_X9_put_0, ↓e_X9_put_7, ↓e_X9_put_10, ↓e_X9_put_17, ↓e_X9_put_23, ↓e_X9_put_24, ↓e_X9_put_27, ↓e_X9_put_30, ↓e_X9_put_34, ↓e_X9_put_35, ↓e_X9_put_39, ↓e_X9_put_44, ↓e_X9_put_49, ↓e_X9_put_55, v9 o9_129, m_in, hw, hv, zps_s, bI_0, m_bad, zk_i, zk_r, zk_n, reduceCtorEq, ↓reduceIte]
    · rcases inL_c (x := v) 0 1 m_d0 m_d1 (by decide) (by decide) with ⟨hv, j, -, hj, rfl⟩ | ⟨hv, hv2⟩
      · have e0 : nI 1 = 1 := rfl
        have e1 : (nI j = 0) = (j = 0) := propext (nI_eq (b := 0) (by omega) (by decide))
        have e2 : (nI j = 1) = (j = 1) := propext (nI_eq (b := 1) (by omega) (by decide))
        have e7 : (107 : Int32) + 1 = nI 108 := by decide
        refine ⟨nI ea, (set2 z.1 1 6 (nI j), z.2), (set2 (set2 z.1 1 6 (nI j)) 130 108 (nI j), z.2), fun K => ?_, fun K => ?_, ?_⟩
        · obtain rfl | rfl : j = 0 ∨ j = 1 := by omega
          · simp only [↓c_X8_put, ↓e_X8_put_0, ↓e_X8_put_4, ↓e_X8_put_8, ↓e_X8_put_13, ↓e_X8_put_17, ↓e_X8_put_20, ↓e_X8_put_25, ↓e_X8_put_29, ↓e_X8_put_31, ↓e_X8_put_36, ↓e_X8_put_40, ↓e_X8_put_45, ↓e_X8_put_49, ↓e_X8_put_52, ↓e_X8_put_57, ↓e_X8_put_61, ↓e_X8_put_63, ↓e_X8_put_71, e0, e1, e2, i01, g8 o8_0, g7 o7_1, p7 o7_1, Nat.reduceAdd, hc.2.2.2.2.1, zk_i, zk_r, zk_n, ↓reduceIte]
          · simp only [↓c_X8_put, ↓e_X8_put_0, ↓e_X8_put_4, ↓e_X8_put_8, ↓e_X8_put_13, ↓e_X8_put_17, ↓e_X8_put_20, ↓e_X8_put_25, ↓e_X8_put_29, ↓e_X8_put_31, ↓e_X8_put_36, ↓e_X8_put_40, ↓e_X8_put_45, ↓e_X8_put_49, ↓e_X8_put_52, ↓e_X8_put_57, ↓e_X8_put_61, ↓e_X8_put_63, ↓e_X8_put_71, e0, e1, e2, i01, g8 o8_0, g7 o7_1, p7 o7_1, Nat.reduceAdd, hc.2.2.2.2.1, zk_i, zk_r, zk_n, ↓reduceIte]
        · rw [e0] at hw
          simp only [↓c_X9_put, ↓e_X9_put_0, ↓e_X9_put_7, ↓e_X9_put_10, ↓e_X9_put_17, ↓e_X9_put_23, ↓e_X9_put_24, ↓e_X9_put_27, ↓e_X9_put_30, ↓e_X9_put_34, ↓e_X9_put_35, ↓e_X9_put_39, ↓e_X9_put_44, ↓e_X9_put_49, ↓e_X9_put_55, e0, i01, m_in, hw, hv, zps_s, bI_0, e7, g9 o9_129, Nat.reduceAdd, st_k (show 108 < 1083 by decide), wi_k (k := 108) i130 (by decide) (by decide), set2_n (f := z.1) (o := 1) (j := 6) (a := 130) (k := 108) (x := nI j) (Or.inl (by decide)), hm.2.2.2.2.1, zk_i, zk_r, zk_n, reduceCtorEq, ↓reduceIte]
        · refine Inv_num (nl' := nl) (ny' := ny) (ch' := ch) (ea' := j) hI (by decide) (RT_num h (Nat.le_refl _) (Nat.le_refl _) (by decide) ?_)
          simp only [rF, Nat.reduceAdd, Nat.add_zero, set2, Nat.reduceEqDiff, and_true, and_false, false_and, true_and, ↓reduceIte]
          exact ⟨⟨hc.1, hc.2.1, hc.2.2.1, hc.2.2.2.1, hc.2.2.2.2.2.1, hc.2.2.2.2.2.2⟩, ⟨hm.1, hm.2.1, hm.2.2.1, hm.2.2.2.1, hm.2.2.2.2.2.1, hm.2.2.2.2.2.2⟩, hn.1, hn.2.1, hn.2.2.1, hn.2.2.2.1, hj, hn.2.2.2.2.2.1, hn.2.2.2.2.2.2⟩
      · refine op_ref hI 0 (-2) (fun K => ?_) (fun z1 K hr e => ?_)
        · have e0 : nI 1 = 1 := rfl
          have q0 : (v = 0) = False := out_ne (k := 0) hv2 (by decide) (by decide) (by decide)
          have q1 : (v = 1) = False := out_ne (k := 1) hv2 (by decide) (by decide) (by decide)
          simp only [↓c_X8_put, ↓e_X8_put_0, ↓e_X8_put_4, ↓e_X8_put_8, ↓e_X8_put_13, ↓e_X8_put_17, ↓e_X8_put_20, ↓e_X8_put_25, ↓e_X8_put_29, ↓e_X8_put_31, ↓e_X8_put_36, ↓e_X8_put_40, ↓e_X8_put_45, ↓e_X8_put_49, ↓e_X8_put_52, ↓e_X8_put_57, ↓e_X8_put_61, ↓e_X8_put_63, ↓e_X8_put_71, e0, q0, q1, i01, v8 o8_0, Nat.reduceAdd, x_bad, zps_s, zk_i, zk_r, zk_n, ↓reduceIte]
        · have e0 : nI 1 = 1 := rfl
          rw [e0] at hw ⊢
          simp only [↓c_X9_put, ↓e_X9_put_0, ↓e_X9_put_7, ↓e_X9_put_10, ↓e_X9_put_17, ↓e_X9_put_23, ↓e_X9_put_24, ↓e_X9_put_27, ↓e_X9_put_30, ↓e_X9_put_34, ↓e_X9_put_35, ↓e_X9_put_39, ↓e_X9_put_44, ↓e_X9_put_49, ↓e_X9_put_55, v9 o9_129, i01, m_in, hw, hv, zps_s, bI_0, m_bad, zk_i, zk_r, zk_n, reduceCtorEq, ↓reduceIte]
  · refine op_ref hI 0 (-2) (fun K => ?_) (fun z1 K hr e => ?_)
    · have q0 : (w = 0) = False := out_ne (k := 0) hw2 (by decide) (by decide) (by decide)
      have q1 : (w = 1) = False := out_ne (k := 1) hw2 (by decide) (by decide) (by decide)
      simp only [↓c_X8_put, ↓e_X8_put_0, ↓e_X8_put_4, ↓e_X8_put_8, ↓e_X8_put_13, ↓e_X8_put_17, ↓e_X8_put_20, ↓e_X8_put_25, ↓e_X8_put_29, ↓e_X8_put_31, ↓e_X8_put_36, ↓e_X8_put_40, ↓e_X8_put_45, ↓e_X8_put_49, ↓e_X8_put_52, ↓e_X8_put_57, ↓e_X8_put_61, ↓e_X8_put_63, ↓e_X8_put_71, q0, q1, v8 o8_0, Nat.reduceAdd, x_bad, zps_s, zk_i, zk_r, zk_n, ↓reduceIte]
    · simp only [↓c_X9_put, ↓e_X9_put_0, ↓e_X9_put_7, ↓e_X9_put_10, ↓e_X9_put_17, ↓e_X9_put_23, ↓e_X9_put_24, ↓e_X9_put_27, ↓e_X9_put_30, ↓e_X9_put_34, ↓e_X9_put_35, ↓e_X9_put_39, ↓e_X9_put_44, ↓e_X9_put_49, ↓e_X9_put_55, v9 o9_129, m_in, hw, zps_s, bI_0, m_bad, zk_i, zk_r, zk_n, ↓reduceIte]
/-- who has a part, or stands behind it, changes in both -/
theorem RT_who {f : Nat → Nat → Int32} {np nc ns nl ny ch ea p : Nat} {x : Int32} {b : Bool} (h : RT f 1 0 np nc ns nl ny ch ea) (hp : p < np) (hx : orN x nc) : RT (set2 (set2 f (if b = true then 15 else 14) p x) 130 ((if b = true then 24 else 18) + p) x) 1 0 np nc ns nl ny ch ea := by
  obtain ⟨h0, hP, hC, hN, hB, hY⟩ := h
  have n := h0.2.2
  generalize hr : (if b = true then 15 else 14) = r
  generalize hk : (if b = true then 24 else 18) = k0
  have hrk : (r = 15 ∧ k0 = 24) ∨ (r = 14 ∧ k0 = 18) := by cases b <;> simp at hr hk <;> omega
  have eA : ∀ j i, (j + 1 ≠ r ∨ i ≠ p) → j ≤ 18 → set2 (set2 f r p x) 130 (k0 + p) x (j + 1) i = f (j + 1) i := fun j i h1 h2 => by rw [set2_n (Or.inl (by omega)), set2_n h1]
  have eS : ∀ k, k ≠ k0 + p → set2 (set2 f r p x) 130 (k0 + p) x 130 (k + 0) = f 130 (k + 0) := fun k h1 => by rw [set2_n (Or.inr (by omega)), set2_n (Or.inl (by omega))]
  refine ⟨?_, fun q hq => ?_, fun c hc => rC_c (fun j i hj => eA j i (by omega) (by omega)) (fun k _ hk => eS k (by omega)) (by omega) (hC c hc), fun i hi => rN_c (fun j hj => eA j i (by omega) (by omega)) (fun k _ hk => eS k (by omega)) (by omega) (hN i hi), fun i hi => rB_c (eA 17 i (by omega) (by omega)) (eS _ (by omega)) (hB i (by omega)), fun i hi => rY_c (eA 18 i (by omega) (by omega)) (eS _ (by omega)) (hY i (by omega))⟩
  · unfold rF
    dsimp only
    rw [eA 1 0 (by omega) (by omega), eA 1 4 (by omega) (by omega), eA 1 11 (by omega) (by omega), eA 0 5 (by omega) (by omega), eA 0 6 (by omega) (by omega), eA 0 8 (by omega) (by omega), eA 0 10 (by omega) (by omega), eS 104 (by omega), eS 105 (by omega), eS 106 (by omega), eS 107 (by omega), eS 108 (by omega), eS 120 (by omega), eS 109 (by omega)]
    exact h0
  · by_cases e : q = p
    · subst e
      obtain ⟨p1, p2, p3, p4, p5, p6, p7, p8, p9, p10, p11, p12⟩ := hP q hq
      rcases hrk with ⟨rfl, rfl⟩ | ⟨rfl, rfl⟩
      · unfold rP
        dsimp only
        rw [eA 2 q (by omega) (by omega), eA 3 q (by omega) (by omega), eA 4 q (by omega) (by omega), eA 13 q (by omega) (by omega), eA 15 q (by omega) (by omega), eS (3 * q) (by omega), eS (3 * q + 1) (by omega), eS (3 * q + 2) (by omega), eS (18 + q) (by omega), eS (30 + q) (by omega)]
        have a1 : set2 (set2 f 15 q x) 130 (24 + q) x (14 + 1) q = x := by rw [set2_n (Or.inl (by decide)), set2_s]
        have a2 : set2 (set2 f 15 q x) 130 (24 + q) x 130 (24 + q + 0) = x := by rw [Nat.add_zero, set2_s]
        rw [a1, a2]
        exact ⟨p1, p2, p3, p4, rfl, p6, p7, p8, p9, p10, hx, p12⟩
      · unfold rP
        dsimp only
        rw [eA 2 q (by omega) (by omega), eA 3 q (by omega) (by omega), eA 4 q (by omega) (by omega), eA 14 q (by omega) (by omega), eA 15 q (by omega) (by omega), eS (3 * q) (by omega), eS (3 * q + 1) (by omega), eS (3 * q + 2) (by omega), eS (24 + q) (by omega), eS (30 + q) (by omega)]
        have a1 : set2 (set2 f 14 q x) 130 (18 + q) x (13 + 1) q = x := by rw [set2_n (Or.inl (by decide)), set2_s]
        have a2 : set2 (set2 f 14 q x) 130 (18 + q) x 130 (18 + q + 0) = x := by rw [Nat.add_zero, set2_s]
        rw [a1, a2]
        exact ⟨p1, p2, p3, rfl, p5, p6, p7, p8, p9, hx, p11, p12⟩
    · have hs : ∀ k, k < 36 → k ≠ k0 + p → set2 (set2 f r p x) 130 (k0 + p) x 130 (k + 0) = f 130 (k + 0) := fun k _ => eS k
      unfold rP
      dsimp only
      rw [eA 2 q (by omega) (by omega), eA 3 q (by omega) (by omega), eA 4 q (by omega) (by omega), eA 13 q (by omega) (by omega), eA 14 q (by omega) (by omega), eA 15 q (by omega) (by omega), eS (3 * q) (by omega), eS (3 * q + 1) (by omega), eS (3 * q + 2) (by omega), eS (18 + q) (by omega), eS (24 + q) (by omega), eS (30 + q) (by omega)]
      exact hP q hq
theorem Inv_set {z : zS} {r p k np nc ns nl ny ch ea : Nat} {x : Int32} (hI : Inv z) (hr : r < 20) (hk : k < 361) (h : RT (set2 (set2 z.1 r p x) 130 k x) 1 0 np nc ns nl ny ch ea) : Inv (set2 (set2 z.1 r p x) 130 k x, z.2) := by
  refine Inv_upd (z := z) ⟨_, _, _, _, _, _, _, h⟩ (fun q hq => ?_) (fun j hj => ?_) rfl rfl rfl hI
  · show set2 (set2 z.1 r p x) 130 k x q = z.1 q
    rw [set2_a (by omega), set2_a (by omega)]
  · show set2 (set2 z.1 r p x) 130 k x 130 j = z.1 130 j
    rw [set2_n (Or.inr (by omega)), set2_n (Or.inl (by omega))]
theorem orN_of {c : Int32} {n : Nat} (hn : n < 2 ^ 31) (h : (decide (c = -1) || inB c (nI n)) = true) : orN c n := by
  rcases Bool.or_eq_true_iff.mp h with q | q
  · exact Or.inl (by simpa using q)
  · obtain ⟨j, hj, e⟩ := of_inB rfl hn q
    exact Or.inr ⟨j, hj, e⟩
theorem op_cast (E : zE) (d : Nat) {z : zS} (hI : Inv z) (p c : Int32) : OpI E (d + 3) 93 169 [.int p, .int c] z := by
  obtain ⟨⟨np, nc, ns, nl, ny, ch, ea, h⟩, -⟩ := id hI
  obtain ⟨hc, hm, hn⟩ := rt_F h
  have n1 : np < 2 ^ 31 := by omega
  have n2 : nc < 2 ^ 31 := by omega
  cases h1 : inB p (nI np) with
  | false =>
    refine op_ref hI 0 (-10) (fun K => ?_) (fun z1 K hr e => ?_)
    · simp only [↓c_X8_cast, ↓e_X8_cast_0, ↓e_X8_cast_4, ↓e_X8_cast_7, ↓e_X8_cast_11, ↓e_X8_cast_14, ↓e_X8_cast_19, ↓e_X8_cast_22, ↓e_X8_cast_30, ↓e_X8_cast_31, ↓e_X8_cast_35, ↓e_X8_cast_38, ↓e_X8_cast_40, ↓e_X8_cast_45, ↓e_X8_cast_48, ↓e_X8_cast_51, g8 o8_0, g7 o7_1, v6 o6_2, v8 o8_0, Nat.reduceAdd, s_hasPart o6_2, hc.1, h1, zps_s, bI_0, x_bad, zk_i, zk_r, zk_n, ↓reduceIte]
    · simp only [↓c_X9_cast, ↓e_X9_cast_0, ↓e_X9_cast_5, ↓e_X9_cast_8, ↓e_X9_cast_13, ↓e_X9_cast_16, ↓e_X9_cast_23, ↓e_X9_cast_24, ↓e_X9_cast_28, ↓e_X9_cast_33, ↓e_X9_cast_38, ↓e_X9_cast_44, v9 o9_129, m_isPart E (d + 1) n1 (show z1.1 130 104 = nI np by rw [hr 130 (by decide)]; exact hm.1), h1, zps_s, bI_0, m_r0, zk_i, zk_r, zk_n, ↓reduceIte]
  | true =>
    obtain ⟨j, hj, rfl⟩ := of_inB rfl n1 h1
    cases h2 : (decide (c = -1) || inB c (nI nc)) with
    | false =>
      refine op_ref hI 0 (-10) (fun K => ?_) (fun z1 K hr e => ?_)
      · simp only [↓c_X8_cast, ↓e_X8_cast_0, ↓e_X8_cast_4, ↓e_X8_cast_7, ↓e_X8_cast_11, ↓e_X8_cast_14, ↓e_X8_cast_19, ↓e_X8_cast_22, ↓e_X8_cast_30, ↓e_X8_cast_31, ↓e_X8_cast_35, ↓e_X8_cast_38, ↓e_X8_cast_40, ↓e_X8_cast_45, ↓e_X8_cast_48, ↓e_X8_cast_51, g8 o8_0, g7 o7_1, v6 o6_2, v8 o8_0, Nat.reduceAdd, s_hasPart o6_2, x_orNone, hc.1, hc.2.1, h1, h2, zps_s, bI_0, x_bad, zk_i, zk_r, zk_n, reduceCtorEq, ↓reduceIte]
      · simp only [↓c_X9_cast, ↓e_X9_cast_0, ↓e_X9_cast_5, ↓e_X9_cast_8, ↓e_X9_cast_13, ↓e_X9_cast_16, ↓e_X9_cast_23, ↓e_X9_cast_24, ↓e_X9_cast_28, ↓e_X9_cast_33, ↓e_X9_cast_38, ↓e_X9_cast_44, v9 o9_129, m_isPart E (d + 1) n1 (show z1.1 130 104 = nI np by rw [hr 130 (by decide)]; exact hm.1), m_isOrNone E d n2 (show z1.1 130 105 = nI nc by rw [hr 130 (by decide)]; exact hm.2.1), h1, h2, zps_s, bI_0, m_r0, zk_i, zk_r, zk_n, reduceCtorEq, ↓reduceIte]
    | true =>
      have e1 : (18 : Int32) + nI j = nI (18 + j) := nI_add 18 j
      have a1 : set2 z.1 14 j c 130 104 = nI np := by rw [set2_a (by decide)]; exact hm.1
      have a2 : set2 z.1 14 j c 130 105 = nI nc := by rw [set2_a (by decide)]; exact hm.2.1
      refine ⟨z.1 130 (18 + j), (set2 z.1 14 j c, z.2), (set2 (set2 z.1 14 j c) 130 (18 + j) c, z.2), fun K => ?_, fun K => ?_, Inv_set hI (by decide) (by omega) (RT_who (b := false) h hj (orN_of n2 h2))⟩
      · simp only [↓c_X8_cast, ↓e_X8_cast_0, ↓e_X8_cast_4, ↓e_X8_cast_7, ↓e_X8_cast_11, ↓e_X8_cast_14, ↓e_X8_cast_19, ↓e_X8_cast_22, ↓e_X8_cast_30, ↓e_X8_cast_31, ↓e_X8_cast_35, ↓e_X8_cast_38, ↓e_X8_cast_40, ↓e_X8_cast_45, ↓e_X8_cast_48, ↓e_X8_cast_51, g8 o8_0, g7 o7_1, v6 o6_2, v8 o8_0, Nat.reduceAdd, s_hasPart o6_2, x_orNone, hc.1, hc.2.1, h1, h2, zps_s, bI_0, ri_k i14 (show j < 6 by omega) (by decide), wi_k i14 (show j < 6 by omega) (by decide), (rt_P h hj).2.2.2.1, zk_i, zk_r, zk_n, reduceCtorEq, ↓reduceIte]
      · simp only [↓c_X9_cast, ↓e_X9_cast_0, ↓e_X9_cast_5, ↓e_X9_cast_8, ↓e_X9_cast_13, ↓e_X9_cast_16, ↓e_X9_cast_23, ↓e_X9_cast_24, ↓e_X9_cast_28, ↓e_X9_cast_33, ↓e_X9_cast_38, ↓e_X9_cast_44, g9 o9_129, v9 o9_129, Nat.reduceAdd, m_isPart E (d + 1) n1 (z := (set2 z.1 14 j c, z.2)) a1, m_isOrNone E d n2 (z := (set2 z.1 14 j c, z.2)) a2, h1, h2, e1, st_k (show 18 + j < 1083 by omega), wi_k i130 (show 18 + j < 1083 by omega) (by decide), set2_a (f := z.1) (o := 14) (j := j) (a := 130) (x := c) (by decide), zps_s, bI_0, zk_i, zk_r, zk_n, reduceCtorEq, ↓reduceIte]
theorem op_behind (E : zE) (d : Nat) {z : zS} (hI : Inv z) (p c : Int32) : OpI E (d + 3) 102 189 [.int p, .int c] z := by
  obtain ⟨⟨np, nc, ns, nl, ny, ch, ea, h⟩, -⟩ := id hI
  obtain ⟨hc, hm, hn⟩ := rt_F h
  have n1 : np < 2 ^ 31 := by omega
  have n2 : nc < 2 ^ 31 := by omega
  cases h1 : inB p (nI np) with
  | false =>
    refine op_ref hI 0 (-10) (fun K => ?_) (fun z1 K hr e => ?_)
    · simp only [↓c_X8_behind, ↓e_X8_behind_0, ↓e_X8_behind_4, ↓e_X8_behind_7, ↓e_X8_behind_11, ↓e_X8_behind_14, ↓e_X8_behind_19, ↓e_X8_behind_22, ↓e_X8_behind_30, ↓e_X8_behind_31, ↓e_X8_behind_35, ↓e_X8_behind_38, ↓e_X8_behind_40, ↓e_X8_behind_45, ↓e_X8_behind_48, ↓e_X8_behind_51, g8 o8_0, g7 o7_1, v6 o6_2, v8 o8_0, Nat.reduceAdd, s_hasPart o6_2, hc.1, h1, zps_s, bI_0, x_bad, zk_i, zk_r, zk_n, ↓reduceIte]
    · simp only [↓c_X9_behind, ↓e_X9_behind_0, ↓e_X9_behind_5, ↓e_X9_behind_8, ↓e_X9_behind_13, ↓e_X9_behind_16, ↓e_X9_behind_23, ↓e_X9_behind_24, ↓e_X9_behind_28, ↓e_X9_behind_33, ↓e_X9_behind_38, ↓e_X9_behind_44, v9 o9_129, m_isPart E (d + 1) n1 (show z1.1 130 104 = nI np by rw [hr 130 (by decide)]; exact hm.1), h1, zps_s, bI_0, m_r0, zk_i, zk_r, zk_n, ↓reduceIte]
  | true =>
    obtain ⟨j, hj, rfl⟩ := of_inB rfl n1 h1
    cases h2 : (decide (c = -1) || inB c (nI nc)) with
    | false =>
      refine op_ref hI 0 (-10) (fun K => ?_) (fun z1 K hr e => ?_)
      · simp only [↓c_X8_behind, ↓e_X8_behind_0, ↓e_X8_behind_4, ↓e_X8_behind_7, ↓e_X8_behind_11, ↓e_X8_behind_14, ↓e_X8_behind_19, ↓e_X8_behind_22, ↓e_X8_behind_30, ↓e_X8_behind_31, ↓e_X8_behind_35, ↓e_X8_behind_38, ↓e_X8_behind_40, ↓e_X8_behind_45, ↓e_X8_behind_48, ↓e_X8_behind_51, g8 o8_0, g7 o7_1, v6 o6_2, v8 o8_0, Nat.reduceAdd, s_hasPart o6_2, x_orNone, hc.1, hc.2.1, h1, h2, zps_s, bI_0, x_bad, zk_i, zk_r, zk_n, reduceCtorEq, ↓reduceIte]
      · simp only [↓c_X9_behind, ↓e_X9_behind_0, ↓e_X9_behind_5, ↓e_X9_behind_8, ↓e_X9_behind_13, ↓e_X9_behind_16, ↓e_X9_behind_23, ↓e_X9_behind_24, ↓e_X9_behind_28, ↓e_X9_behind_33, ↓e_X9_behind_38, ↓e_X9_behind_44, v9 o9_129, m_isPart E (d + 1) n1 (show z1.1 130 104 = nI np by rw [hr 130 (by decide)]; exact hm.1), m_isOrNone E d n2 (show z1.1 130 105 = nI nc by rw [hr 130 (by decide)]; exact hm.2.1), h1, h2, zps_s, bI_0, m_r0, zk_i, zk_r, zk_n, reduceCtorEq, ↓reduceIte]
    | true =>
      have e1 : (24 : Int32) + nI j = nI (24 + j) := nI_add 24 j
      have a1 : set2 z.1 15 j c 130 104 = nI np := by rw [set2_a (by decide)]; exact hm.1
      have a2 : set2 z.1 15 j c 130 105 = nI nc := by rw [set2_a (by decide)]; exact hm.2.1
      refine ⟨z.1 130 (24 + j), (set2 z.1 15 j c, z.2), (set2 (set2 z.1 15 j c) 130 (24 + j) c, z.2), fun K => ?_, fun K => ?_, Inv_set hI (by decide) (by omega) (RT_who (b := true) h hj (orN_of n2 h2))⟩
      · simp only [↓c_X8_behind, ↓e_X8_behind_0, ↓e_X8_behind_4, ↓e_X8_behind_7, ↓e_X8_behind_11, ↓e_X8_behind_14, ↓e_X8_behind_19, ↓e_X8_behind_22, ↓e_X8_behind_30, ↓e_X8_behind_31, ↓e_X8_behind_35, ↓e_X8_behind_38, ↓e_X8_behind_40, ↓e_X8_behind_45, ↓e_X8_behind_48, ↓e_X8_behind_51, g8 o8_0, g7 o7_1, v6 o6_2, v8 o8_0, Nat.reduceAdd, s_hasPart o6_2, x_orNone, hc.1, hc.2.1, h1, h2, zps_s, bI_0, ri_k i15 (show j < 6 by omega) (by decide), wi_k i15 (show j < 6 by omega) (by decide), (rt_P h hj).2.2.2.2.1, zk_i, zk_r, zk_n, reduceCtorEq, ↓reduceIte]
      · simp only [↓c_X9_behind, ↓e_X9_behind_0, ↓e_X9_behind_5, ↓e_X9_behind_8, ↓e_X9_behind_13, ↓e_X9_behind_16, ↓e_X9_behind_23, ↓e_X9_behind_24, ↓e_X9_behind_28, ↓e_X9_behind_33, ↓e_X9_behind_38, ↓e_X9_behind_44, g9 o9_129, v9 o9_129, Nat.reduceAdd, m_isPart E (d + 1) n1 (z := (set2 z.1 15 j c, z.2)) a1, m_isOrNone E d n2 (z := (set2 z.1 15 j c, z.2)) a2, h1, h2, e1, st_k (show 24 + j < 1083 by omega), wi_k i130 (show 24 + j < 1083 by omega) (by decide), set2_a (f := z.1) (o := 15) (j := j) (a := 130) (x := c) (by decide), zps_s, bI_0, zk_i, zk_r, zk_n, reduceCtorEq, ↓reduceIte]
