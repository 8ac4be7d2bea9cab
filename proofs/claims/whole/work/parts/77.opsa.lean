/-! the class's small methods; calls that change a number or tell one -/
theorem i23 : isI 23 3 := rfl
theorem x_refuse (E : zE) (d : Nat) {k : Nat} (hk : k < 3) {r : Int32} (e : (-2) - r = nI k) (a : Int32) (z : zS) (K : Option Value → zH → Prop) : Cl E d 119 [.ref 0, .int r, .int a] (HP z) K = K (some (.int a)) (HP (set2 z.1 23 k (z.1 23 k + 1), z.2)) := by
  simp only [↓c_X8_refuse, ↓e_X8_refuse_0, ↓e_X8_refuse_9, ↓e_X8_refuse_14, ↓e_X8_refuse_15, ↓e_X8_refuse_18, ↓e_X8_refuse_22, ↓e_X8_refuse_25, ↓e_X8_refuse_28, g8 o8_0, Nat.reduceAdd, HP_al i23, e, nI_neg (show k < 2 ^ 31 by omega), nI_lt_iff (show k < 2 ^ 31 by omega) (show 3 < 2 ^ 31 by decide), hk, ri_k i23 hk (by decide), wi_k i23 hk (by decide), zk_i, zk_r, zk_n, ↓reduceIte]
theorem x_bad (E : zE) (d : Nat) (a : Int32) (z : zS) (K : Option Value → zH → Prop) : Cl E d 119 [.ref 0, .int (-2), .int a] (HP z) K = K (some (.int a)) (HP (set2 z.1 23 0 (z.1 23 0 + 1), z.2)) := x_refuse E d (k := 0) (by decide) (by decide) a z K
theorem x_no (E : zE) (d : Nat) (a : Int32) (z : zS) (K : Option Value → zH → Prop) : Cl E d 119 [.ref 0, .int (-3), .int a] (HP z) K = K (some (.int a)) (HP (set2 z.1 23 1 (z.1 23 1 + 1), z.2)) := x_refuse E d (k := 1) (by decide) (by decide) a z K
theorem x_full (E : zE) (d : Nat) (a : Int32) (z : zS) (K : Option Value → zH → Prop) : Cl E d 119 [.ref 0, .int (-4), .int a] (HP z) K = K (some (.int a)) (HP (set2 z.1 23 2 (z.1 23 2 + 1), z.2)) := x_refuse E d (k := 2) (by decide) (by decide) a z K
theorem m_r0 (E : zE) (d : Nat) (a : Int32) (z : zS) (K : Option Value → zH → Prop) : Cl E d 130 [.ref 129, .int 0, .int a] (HP z) K = K (some (.int a)) (HP (set2 z.1 132 0 (z.1 132 0 + 1), z.2)) := m_refuse E d (k := 0) (by decide) a z K
theorem m_r1 (E : zE) (d : Nat) (a : Int32) (z : zS) (K : Option Value → zH → Prop) : Cl E d 130 [.ref 129, .int 1, .int a] (HP z) K = K (some (.int a)) (HP (set2 z.1 132 1 (z.1 132 1 + 1), z.2)) := m_refuse E d (k := 1) (by decide) a z K
theorem m_r2 (E : zE) (d : Nat) (a : Int32) (z : zS) (K : Option Value → zH → Prop) : Cl E d 130 [.ref 129, .int 2, .int a] (HP z) K = K (some (.int a)) (HP (set2 z.1 132 2 (z.1 132 2 + 1), z.2)) := m_refuse E d (k := 2) (by decide) a z K
/-- both refuse -/
theorem op_ref {E : zE} {d i j : Nat} {as : List Value} {z : zS} (hI : Inv z) (k : Nat) (v : Int32) (h1 : ∀ K, Cl E d i (.ref 0 :: as) (HP z) K = K (some (.int v)) (HP (set2 z.1 23 k (z.1 23 k + 1), z.2))) (h2 : ∀ (z1 : zS) K, (∀ r, r ≠ 23 → z1.1 r = z.1 r) → z1.2 = z.2 → Cl E d j (.ref 129 :: as) (HP z1) K = K (some (.int v)) (HP (set2 z1.1 132 k (z1.1 132 k + 1), z1.2))) : OpI E d i j as z := by
  refine ⟨v, _, _, h1, fun K => h2 _ K (fun r hr => set2_a hr) rfl, ?_⟩
  have := Inv_ref k hI
  rw [← set2_n (f := z.1) (o := 23) (j := k) (a := 132) (k := k) (x := z.1 23 k + 1) (Or.inl (by decide))] at this
  exact this
theorem inB_f {p : Int32} {n : Nat} (hn : n < 2 ^ 31) (h : ¬ inB p (nI n) = true) : inB p (nI n) = false := by
  cases hb : inB p (nI n) with
  | false => rfl
  | true => exact absurd hb h
theorem x_orNone (E : zE) (d : Nat) (c : Int32) (z : zS) (K : Option Value → zH → Prop) : Cl E (d + 1) 120 [.ref 0, .int c] (HP z) K = K (some (.int (bI (decide (c = -1) || inB c (z.1 2 4))))) (HP z) := by
  simp only [↓c_X8_isChildOrNone, ↓e_X8_isChildOrNone_0, ↓e_X8_isChildOrNone_5, ↓e_X8_isChildOrNone_9, ↓e_X8_isChildOrNone_12, ↓e_X8_isChildOrNone_16, ↓e_X8_isChildOrNone_19, ↓e_X8_isChildOrNone_23, ↓e_X8_isChildOrNone_24, g8 o8_0, g7 o7_1, v6 o6_2, Nat.reduceAdd, s_hasChild o6_2, zps_s, bI_0, zk_i, zk_r, zk_n]
  by_cases h : c = -1
  · simp [h, bI]
  · cases hb : inB c (z.1 2 4) <;> simp [h, bI]
/-- RTv, family by family -/
theorem rP_c {A A' : Nat → Nat → Int32} {s s' : Nat → Int32} {nc p : Nat} (hA : ∀ j, (2 ≤ j ∧ j ≤ 4) ∨ (13 ≤ j ∧ j ≤ 15) → A' j p = A j p) (hs : ∀ k, k < 36 → s' k = s k) (hp : p < 6) (h : rP A s nc p) : rP A' s' nc p := by
  unfold rP
  rw [hA 2 (by omega), hA 3 (by omega), hA 4 (by omega), hA 13 (by omega), hA 14 (by omega), hA 15 (by omega), hs (3 * p) (by omega), hs (3 * p + 1) (by omega), hs (3 * p + 2) (by omega), hs (18 + p) (by omega), hs (24 + p) (by omega), hs (30 + p) (by omega)]
  exact h
theorem rC_c {A A' : Nat → Nat → Int32} {s s' : Nat → Int32} {np c : Nat} (hA : ∀ j i, (5 ≤ j ∧ j ≤ 10) ∨ j = 16 → A' j i = A j i) (hs : ∀ k, 36 ≤ k → k < 90 → s' k = s k) (hc : c < 6) (h : rC A s np c) : rC A' s' np c := by
  unfold rC
  rw [hA 5 c (by omega), hA 6 c (by omega), hA 7 c (by omega), hA 8 c (by omega), hA 9 c (by omega), hA 10 (3 * c) (by omega), hA 10 (3 * c + 1) (by omega), hA 10 (3 * c + 2) (by omega), hA 16 c (by omega), hs (36 + 5 * c + 0) (by omega) (by omega), hs (36 + 5 * c + 1) (by omega) (by omega), hs (36 + 5 * c + 2) (by omega) (by omega), hs (36 + 5 * c + 3) (by omega) (by omega), hs (36 + 5 * c + 4) (by omega) (by omega), hs (66 + 3 * c) (by omega) (by omega), hs (66 + 3 * c + 1) (by omega) (by omega), hs (66 + 3 * c + 2) (by omega) (by omega), hs (84 + c) (by omega) (by omega)]
  exact h
theorem rN_c {A A' : Nat → Nat → Int32} {s s' : Nat → Int32} {i : Nat} (hA : ∀ j, 11 ≤ j ∧ j ≤ 12 → A' j i = A j i) (hs : ∀ k, 90 ≤ k → k < 104 → s' k = s k) (hi : i < 7) (h : rN A s i) : rN A' s' i := by
  unfold rN
  rw [hA 11 (by omega), hA 12 (by omega), hs (90 + 2 * i) (by omega) (by omega), hs (90 + 2 * i + 1) (by omega) (by omega)]
  exact h
theorem rB_c {A A' : Nat → Nat → Int32} {s s' : Nat → Int32} {i : Nat} (hA : A' 17 i = A 17 i) (hs : s' (121 + i) = s (121 + i)) (h : rB A s i) : rB A' s' i := by
  unfold rB
  rw [hA, hs]
  exact h
theorem rY_c {A A' : Nat → Nat → Int32} {s s' : Nat → Int32} {i : Nat} (hA : A' 18 i = A 18 i) (hs : s' (110 + i) = s (110 + i)) (h : rY A s i) : rY A' s' i := by
  unfold rY
  rw [hA, hs]
  exact h
/-- one number of it changes, in both -/
theorem RT_num {f : Nat → Nat → Int32} {np nc ns nl ny ch ea nl' ny' ch' ea' k1 k2 : Nat} {x : Int32} (h : RT f 1 0 np nc ns nl ny ch ea) (hl : nl' ≤ nl) (hy : ny' ≤ ny) (hk : 104 ≤ k2 ∧ k2 ≤ 109 ∨ k2 = 120) (hF : rF (fun j => set2 (set2 f 1 k1 x) 130 k2 x (j + 1)) (fun k => set2 (set2 f 1 k1 x) 130 k2 x 130 (k + 0)) np nc ns nl' ny' ch' ea') : RT (set2 (set2 f 1 k1 x) 130 k2 x) 1 0 np nc ns nl' ny' ch' ea' := by
  obtain ⟨h0, hP, hC, hN, hB, hY⟩ := h
  have n := h0.2.2
  have eA : ∀ j i, 1 ≤ j → j ≤ 18 → set2 (set2 f 1 k1 x) 130 k2 x (j + 1) i = f (j + 1) i := fun j i h1 h2 => by rw [set2_n (Or.inl (by omega)), set2_n (Or.inl (by omega))]
  have eS : ∀ k, k ≠ k2 → set2 (set2 f 1 k1 x) 130 k2 x 130 (k + 0) = f 130 (k + 0) := fun k h1 => by rw [set2_n (Or.inr (by omega)), set2_n (Or.inl (by omega))]
  refine ⟨hF, fun p hp => rP_c (fun j hj => eA j p (by omega) (by omega)) (fun k hk => eS k (by omega)) (by omega) (hP p hp), fun c hc => rC_c (fun j i hj => eA j i (by omega) (by omega)) (fun k _ hk => eS k (by omega)) (by omega) (hC c hc), fun i hi => rN_c (fun j hj => eA j i (by omega) (by omega)) (fun k _ hk => eS k (by omega)) (by omega) (hN i hi), fun i hi => rB_c (eA 17 i (by omega) (by omega)) (eS _ (by omega)) (hB i (by omega)), fun i hi => rY_c (eA 18 i (by omega) (by omega)) (eS _ (by omega)) (hY i (by omega))⟩
theorem Inv_num {z : zS} {np nc ns nl' ny' ch' ea' k1 k2 : Nat} {x : Int32} (hI : Inv z) (hk2 : k2 < 361) (h : RT (set2 (set2 z.1 1 k1 x) 130 k2 x) 1 0 np nc ns nl' ny' ch' ea') : Inv (set2 (set2 z.1 1 k1 x) 130 k2 x, z.2) := by
  refine Inv_upd (z := z) ⟨_, _, _, _, _, _, _, h⟩ (fun r hr => ?_) (fun k hk => ?_) rfl rfl rfl hI
  · show set2 (set2 z.1 1 k1 x) 130 k2 x r = z.1 r
    rw [set2_a (by omega), set2_a (by omega)]
  · show set2 (set2 z.1 1 k1 x) 130 k2 x 130 k = z.1 130 k
    rw [set2_n (Or.inr (by omega)), set2_n (Or.inl (by omega))]
theorem op_clear (E : zE) (d : Nat) {z : zS} (hI : Inv z) : OpI E d 86 135 [] z := by
  obtain ⟨⟨np, nc, ns, nl, ny, ch, ea, h⟩, -⟩ := id hI
  obtain ⟨hc, hm, hn⟩ := rt_F h
  refine ⟨nI nl, (set2 z.1 1 8 0, z.2), (set2 (set2 z.1 1 8 0) 130 120 0, z.2), fun K => ?_, fun K => ?_, ?_⟩
  · simp only [↓c_X8_clear, ↓e_X8_clear_0, ↓e_X8_clear_4, ↓e_X8_clear_7, ↓e_X8_clear_12, ↓e_X8_clear_16, g8 o8_0, g7 o7_1, p7 o7_1, Nat.reduceAdd, hc.2.2.2.2.2.1, zk_i, zk_r, zk_n]
  · rw [m_clear]
    show K (some (.int (set2 z.1 1 8 0 130 120))) _ = _
    rw [set2_n (Or.inl (by decide)), hm.2.2.2.2.2.1]
  · refine Inv_num (nl' := 0) (ch' := ch) (ea' := ea) hI (by decide) (RT_num h (Nat.zero_le _) (Nat.le_refl _) (by decide) ?_)
    simp only [rF, Nat.reduceAdd, Nat.add_zero, set2, Nat.reduceEqDiff, and_true, and_false, false_and, true_and, ↓reduceIte]
    exact ⟨⟨hc.1, hc.2.1, hc.2.2.1, hc.2.2.2.1, hc.2.2.2.2.1, rfl, hc.2.2.2.2.2.2⟩, ⟨hm.1, hm.2.1, hm.2.2.1, hm.2.2.2.1, hm.2.2.2.2.1, rfl, hm.2.2.2.2.2.2⟩, hn.1, hn.2.1, hn.2.2.1, hn.2.2.2.1, hn.2.2.2.2.1, by decide, hn.2.2.2.2.2.2⟩
theorem op_forget (E : zE) (d : Nat) {z : zS} (hI : Inv z) : OpI E d 110 210 [] z := by
  obtain ⟨⟨np, nc, ns, nl, ny, ch, ea, h⟩, -⟩ := id hI
  obtain ⟨hc, hm, hn⟩ := rt_F h
  refine ⟨nI ny, (set2 z.1 1 10 0, z.2), (set2 (set2 z.1 1 10 0) 130 109 0, z.2), fun K => ?_, fun K => ?_, ?_⟩
  · simp only [↓c_X8_forget, ↓e_X8_forget_0, ↓e_X8_forget_4, ↓e_X8_forget_7, ↓e_X8_forget_12, ↓e_X8_forget_16, g8 o8_0, g7 o7_1, p7 o7_1, Nat.reduceAdd, hc.2.2.2.2.2.2, zk_i, zk_r, zk_n]
  · rw [m_forget]
    show K (some (.int (set2 z.1 1 10 0 130 109))) _ = _
    rw [set2_n (Or.inl (by decide)), hm.2.2.2.2.2.2]
  · refine Inv_num (ny' := 0) (ch' := ch) (ea' := ea) hI (by decide) (RT_num h (Nat.le_refl _) (Nat.zero_le _) (by decide) ?_)
    simp only [rF, Nat.reduceAdd, Nat.add_zero, set2, Nat.reduceEqDiff, and_true, and_false, false_and, true_and, ↓reduceIte]
    exact ⟨⟨hc.1, hc.2.1, hc.2.2.1, hc.2.2.2.1, hc.2.2.2.2.1, hc.2.2.2.2.2.1, rfl⟩, ⟨hm.1, hm.2.1, hm.2.2.1, hm.2.2.2.1, hm.2.2.2.2.1, hm.2.2.2.2.2.1, rfl⟩, hn.1, hn.2.1, hn.2.2.1, hn.2.2.2.1, hn.2.2.2.2.1, hn.2.2.2.2.2.1, by decide⟩
