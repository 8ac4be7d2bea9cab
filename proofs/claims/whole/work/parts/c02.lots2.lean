/-! copies of a Script, place by place -/
def okS (j i : Nat) : Prop := (j = 0 ∧ (i = 0 ∨ i = 4 ∨ i = 11)) ∨ (1 ≤ j ∧ j ≤ 8 ∧ i < 6) ∨ (j = 9 ∧ i < 18) ∨ (10 ≤ j ∧ j ≤ 11 ∧ i < 7)
theorem cpS_at {o q : Nat} (hd : o + 11 < q ∨ q + 11 < o) (f : Nat → Nat → Int32) : (∀ a, (a < o ∨ o + 11 < a) → cpS o q f a = f a) ∧ ∀ j i, okS j i → cpS o q f (o + j) i = f (q + j) i := by
  obtain ⟨L0, e0⟩ : ∃ L : Nat → Nat → Int32, L = set2 (set2 (set2 f o 0 (f q 0)) o 4 (f q 4)) o 11 (f q 11) := ⟨_, rfl⟩
  obtain ⟨L1, e1⟩ : ∃ L : Nat → Nat → Int32, L = itr (cpF [(o + 1, q + 1), (o + 2, q + 2), (o + 3, q + 3)]) 6 L0 := ⟨_, rfl⟩
  obtain ⟨L2, e2⟩ : ∃ L : Nat → Nat → Int32, L = itr (cpF [(o + 4, q + 4), (o + 5, q + 5), (o + 6, q + 6), (o + 7, q + 7), (o + 8, q + 8)]) 6 L1 := ⟨_, rfl⟩
  obtain ⟨L3, e3⟩ : ∃ L : Nat → Nat → Int32, L = itr (cpF [(o + 9, q + 9)]) 18 L2 := ⟨_, rfl⟩
  obtain ⟨L4, e4⟩ : ∃ L : Nat → Nat → Int32, L = itr (cpF [(o + 10, q + 10), (o + 11, q + 11)]) 7 L3 := ⟨_, rfl⟩
  have eT : cpS o q f = L4 := by
    rw [e4, e3, e2, e1, e0]
    rfl
  have t0 : ∀ a, a ≠ o → L0 a = f a := fun a ha => by rw [e0, set2_a ha, set2_a ha, set2_a ha]
  have d1 : ∀ x ∈ ([(o + 1, q + 1), (o + 2, q + 2), (o + 3, q + 3)] : List (Nat × Nat)), ∀ y ∈ ([(o + 1, q + 1), (o + 2, q + 2), (o + 3, q + 3)] : List (Nat × Nat)), x.2 ≠ y.1 := by
    intro x hx y hy
    simp only [List.mem_cons, List.not_mem_nil, or_false] at hx hy
    rcases hx with rfl | rfl | rfl <;> rcases hy with rfl | rfl | rfl <;> dsimp only <;> omega
  have n1 : (([(o + 1, q + 1), (o + 2, q + 2), (o + 3, q + 3)] : List (Nat × Nat)).map Prod.fst).Nodup := by simp
  have t1 : ∀ a, a ≠ o + 1 ∧ a ≠ o + 2 ∧ a ≠ o + 3 → L1 a = L0 a := fun a ha => by
    rw [e1]
    refine cp_fr (fun x hx => ?_) _ 6
    simp only [List.mem_cons, List.not_mem_nil, or_false] at hx
    rcases hx with rfl | rfl | rfl <;> dsimp only <;> omega
  have d2 : ∀ x ∈ ([(o + 4, q + 4), (o + 5, q + 5), (o + 6, q + 6), (o + 7, q + 7), (o + 8, q + 8)] : List (Nat × Nat)), ∀ y ∈ ([(o + 4, q + 4), (o + 5, q + 5), (o + 6, q + 6), (o + 7, q + 7), (o + 8, q + 8)] : List (Nat × Nat)), x.2 ≠ y.1 := by
    intro x hx y hy
    simp only [List.mem_cons, List.not_mem_nil, or_false] at hx hy
    rcases hx with rfl | rfl | rfl | rfl | rfl <;> rcases hy with rfl | rfl | rfl | rfl | rfl <;> dsimp only <;> omega
  have n2 : (([(o + 4, q + 4), (o + 5, q + 5), (o + 6, q + 6), (o + 7, q + 7), (o + 8, q + 8)] : List (Nat × Nat)).map Prod.fst).Nodup := by simp
  have t2 : ∀ a, a ≠ o + 4 ∧ a ≠ o + 5 ∧ a ≠ o + 6 ∧ a ≠ o + 7 ∧ a ≠ o + 8 → L2 a = L1 a := fun a ha => by
    rw [e2]
    refine cp_fr (fun x hx => ?_) _ 6
    simp only [List.mem_cons, List.not_mem_nil, or_false] at hx
    rcases hx with rfl | rfl | rfl | rfl | rfl <;> dsimp only <;> omega
  have d3 : ∀ x ∈ ([(o + 9, q + 9)] : List (Nat × Nat)), ∀ y ∈ ([(o + 9, q + 9)] : List (Nat × Nat)), x.2 ≠ y.1 := by
    intro x hx y hy
    simp only [List.mem_cons, List.not_mem_nil, or_false] at hx hy
    subst hx
    subst hy
    dsimp only
    omega
  have n3 : (([(o + 9, q + 9)] : List (Nat × Nat)).map Prod.fst).Nodup := by simp
  have t3 : ∀ a, a ≠ o + 9 → L3 a = L2 a := fun a ha => by
    rw [e3]
    refine cp_fr (fun x hx => ?_) _ 18
    simp only [List.mem_cons, List.not_mem_nil, or_false] at hx
    subst hx
    dsimp only
    omega
  have d4 : ∀ x ∈ ([(o + 10, q + 10), (o + 11, q + 11)] : List (Nat × Nat)), ∀ y ∈ ([(o + 10, q + 10), (o + 11, q + 11)] : List (Nat × Nat)), x.2 ≠ y.1 := by
    intro x hx y hy
    simp only [List.mem_cons, List.not_mem_nil, or_false] at hx hy
    rcases hx with rfl | rfl <;> rcases hy with rfl | rfl <;> dsimp only <;> omega
  have n4 : (([(o + 10, q + 10), (o + 11, q + 11)] : List (Nat × Nat)).map Prod.fst).Nodup := by simp
  have t4 : ∀ a, a ≠ o + 10 ∧ a ≠ o + 11 → L4 a = L3 a := fun a ha => by
    rw [e4]
    refine cp_fr (fun x hx => ?_) _ 7
    simp only [List.mem_cons, List.not_mem_nil, or_false] at hx
    rcases hx with rfl | rfl <;> dsimp only <;> omega
  have fr : ∀ a, (a < o ∨ o + 11 < a) → L0 a = f a ∧ L1 a = f a ∧ L2 a = f a ∧ L3 a = f a ∧ L4 a = f a := fun a ha => by
    have f0 := t0 a (by omega)
    have f1 := (t1 a (by omega)).trans f0
    have f2 := (t2 a (by omega)).trans f1
    have f3 := (t3 a (by omega)).trans f2
    have f4 := (t4 a (by omega)).trans f3
    exact ⟨f0, f1, f2, f3, f4⟩
  rw [eT]
  refine ⟨fun a ha => (fr a ha).2.2.2.2, fun j i hj => ?_⟩
  unfold okS at hj
  rcases hj with ⟨rfl, hj⟩ | hj
  · rw [Nat.add_zero, Nat.add_zero, t4 _ (by omega), t3 _ (by omega), t2 _ (by omega), t1 _ (by omega), e0]
    rcases hj with rfl | rfl | rfl
    · rw [set2_n (Or.inr (by decide)), set2_n (Or.inr (by decide)), set2_s]
    · rw [set2_n (Or.inr (by decide)), set2_s]
    · rw [set2_s]
  · have key : ∀ j i, 1 ≤ j → j ≤ 11 → (j ≤ 8 → i < 6) → (j = 9 → i < 18) → (10 ≤ j → i < 7) → L4 (o + j) i = f (q + j) i := by
      intro j i h2 h18 c1 c2 c3
      have s0 := fr (q + j) (by omega)
      obtain rfl | rfl | rfl | rfl | rfl | rfl | rfl | rfl | rfl | rfl | rfl : j = 1 ∨ j = 2 ∨ j = 3 ∨ j = 4 ∨ j = 5 ∨ j = 6 ∨ j = 7 ∨ j = 8 ∨ j = 9 ∨ j = 10 ∨ j = 11 := by omega
      · rw [t4 _ (by omega), t3 _ (by omega), t2 _ (by omega), e1, cp_at d1 n1 L0 (b := q + 1) (by simp) (by omega)]
        exact congrFun s0.1 i
      · rw [t4 _ (by omega), t3 _ (by omega), t2 _ (by omega), e1, cp_at d1 n1 L0 (b := q + 2) (by simp) (by omega)]
        exact congrFun s0.1 i
      · rw [t4 _ (by omega), t3 _ (by omega), t2 _ (by omega), e1, cp_at d1 n1 L0 (b := q + 3) (by simp) (by omega)]
        exact congrFun s0.1 i
      · rw [t4 _ (by omega), t3 _ (by omega), e2, cp_at d2 n2 L1 (b := q + 4) (by simp) (by omega)]
        exact congrFun s0.2.1 i
      · rw [t4 _ (by omega), t3 _ (by omega), e2, cp_at d2 n2 L1 (b := q + 5) (by simp) (by omega)]
        exact congrFun s0.2.1 i
      · rw [t4 _ (by omega), t3 _ (by omega), e2, cp_at d2 n2 L1 (b := q + 6) (by simp) (by omega)]
        exact congrFun s0.2.1 i
      · rw [t4 _ (by omega), t3 _ (by omega), e2, cp_at d2 n2 L1 (b := q + 7) (by simp) (by omega)]
        exact congrFun s0.2.1 i
      · rw [t4 _ (by omega), t3 _ (by omega), e2, cp_at d2 n2 L1 (b := q + 8) (by simp) (by omega)]
        exact congrFun s0.2.1 i
      · rw [t4 _ (by omega), e3, cp_at d3 n3 L2 (b := q + 9) (by simp) (by omega)]
        exact congrFun s0.2.2.1 i
      · rw [e4, cp_at d4 n4 L3 (b := q + 10) (by simp) (by omega)]
        exact congrFun s0.2.2.2.1 i
      · rw [e4, cp_at d4 n4 L3 (b := q + 11) (by simp) (by omega)]
        exact congrFun s0.2.2.2.1 i
    exact key j i (by omega) (by omega) (by omega) (by omega) (by omega)
/-- lots: the class's draw, made ready -/
theorem l_ready {z : zS} {np nc ns nl ny ch ea : Nat} (h : RT z.1 1 0 np nc ns nl ny ch ea) (r : Int32) : ∃ f : Nat → Nat → Int32, f = itr (cpF [(90, 87)]) 18 (set2 (cpS 78 2 z.1) 76 2 r) ∧ (∀ a, a < 76 ∨ 90 < a → f a = z.1 a) ∧ f 78 4 = nI nc ∧ f 78 0 = nI np ∧ f 76 2 = r ∧ (∀ x, x < 18 → f 90 x = z.1 11 x) ∧ ∀ x, x < 18 → f 87 x = z.1 11 x := by
  obtain ⟨hc, hm, hn⟩ := rt_F h
  obtain ⟨c1, c2⟩ := cpS_at (o := 78) (q := 2) (by omega) z.1
  refine ⟨_, rfl, fun a ha => ?_, ?_, ?_, ?_, fun x hx => ?_, fun x hx => ?_⟩
  · rw [cp_fr (by simp; omega), set2_a (by omega), c1 a (by omega)]
  · rw [cp_fr (by simp), set2_a (by decide)]
    exact (c2 0 4 (by unfold okS; omega)).trans hc.2.1
  · rw [cp_fr (by simp), set2_a (by decide)]
    exact (c2 0 0 (by unfold okS; omega)).trans hc.1
  · rw [cp_fr (by simp), set2_s]
  · rw [cp_at (a := 90) (b := 87) (by simp) (by simp) _ (by simp) hx, set2_a (by decide)]
    exact c2 9 x (by unfold okS; omega)
  · rw [cp_fr (by simp), set2_a (by decide)]
    exact c2 9 x (by unfold okS; omega)
theorem q_wish {z : zS} {np nc ns nl ny ch ea : Nat} (h : RT z.1 1 0 np nc ns nl ny ch ea) {x : Nat} (hx : x < 3 * nc) : z.1 11 x = z.1 130 (66 + x) ∧ orN (z.1 130 (66 + x)) np := by
  obtain ⟨-, -, -, -, -, w0, w1, w2, -, -, -, -, -, -, o0, o1, o2⟩ := rt_C h (show x / 3 < nc by omega)
  obtain e | e | e : x = 3 * (x / 3) ∨ x = 3 * (x / 3) + 1 ∨ x = 3 * (x / 3) + 2 := by omega
  · rw [e]
    exact ⟨w0, o0⟩
  · rw [e]
    exact ⟨w1, o1⟩
  · rw [e]
    exact ⟨w2, o2⟩
theorem m_lotsOf {z : zS} (f : Nat → Nat → Int32) (h : f 130 = z.1 130) (x : Nat) (hx : x < 18) : itr (mvF 138 0 130 66) 18 f 138 x = z.1 130 (66 + x) := by
  rw [mv_to (by decide), if_pos (by omega), h, Nat.sub_zero]
theorem x_isRule (E : zE) (d : Nat) (r : Int32) (h : zH) (K : Option Value → zH → Prop) : Cl E d 122 [.int r] h K = K (some (.int (bI (inL r.toInt64 0 1)))) h := by
  rcases inL_c (x := r) 0 1 m_d0 m_d1 (by decide) (by decide) with ⟨hv, j, -, hj, rfl⟩ | ⟨hv, hv2⟩
  · have e1 : (nI j = 0) = (j = 0) := propext (nI_eq (b := 0) (by omega) (by decide))
    have e2 : (nI j = 1) = (j = 1) := propext (nI_eq (b := 1) (by omega) (by decide))
    obtain rfl | rfl : j = 0 ∨ j = 1 := by omega
    · simp only [↓c_X8_isRule, ↓e_X8_isRule_0, ↓e_X8_isRule_4, ↓e_X8_isRule_9, ↓e_X8_isRule_13, ↓e_X8_isRule_14, e1, hv, bI_t, i01, or_true, true_and, ↓reduceIte]
    · simp only [↓c_X8_isRule, ↓e_X8_isRule_0, ↓e_X8_isRule_4, ↓e_X8_isRule_9, ↓e_X8_isRule_13, ↓e_X8_isRule_14, e1, e2, hv, bI_t, i01, or_true, true_and, Nat.one_ne_zero, ↓reduceIte]
  · have q0 : (r = 0) = False := out_ne (k := 0) hv2 (by decide) (by decide) (by decide)
    have q1 : (r = 1) = False := out_ne (k := 1) hv2 (by decide) (by decide) (by decide)
    simp only [↓c_X8_isRule, ↓e_X8_isRule_0, ↓e_X8_isRule_4, ↓e_X8_isRule_9, ↓e_X8_isRule_13, ↓e_X8_isRule_14, q0, q1, hv, bI_f, true_or, true_and, ↓reduceIte]
theorem op_lots (E : zE) (d : Nat) {z : zS} (hI : Inv z) (r c : Int32) : OpI E (d + 4) 106 203 [.int r, .int c] z := by
  obtain ⟨⟨np, nc, ns, nl, ny, ch, ea, h⟩, -⟩ := id hI
  obtain ⟨hc, hm, hn⟩ := rt_F h
  have n2 : nc < 2 ^ 31 := by omega
  cases hr : inL r.toInt64 0 1 with
  | false =>
    refine op_ref hI 0 (-10) (fun K => ?_) (fun z1 K hr' e => ?_)
    · simp only [↓c_X8_lots, ↓e_X8_lots_0, ↓e_X8_lots_4, ↓e_X8_lots_7, ↓e_X8_lots_11, ↓e_X8_lots_14, ↓e_X8_lots_18, ↓e_X8_lots_21, ↓e_X8_lots_29, ↓e_X8_lots_30, ↓e_X8_lots_34, ↓e_X8_lots_38, ↓e_X8_lots_41, ↓e_X8_lots_45, ↓e_X8_lots_49, ↓e_X8_lots_52, ↓e_X8_lots_56, ↓e_X8_lots_59, ↓e_X8_lots_61, x_isRule, hr, v8 o8_0, Nat.reduceAdd, x_bad, zps_s, bI_0, zk_i, zk_r, zk_n, ↓reduceIte]
    · simp only [↓c_X9_lots, ↓e_X9_lots_0, ↓e_X9_lots_7, ↓e_X9_lots_10, ↓e_X9_lots_15, ↓e_X9_lots_18, ↓e_X9_lots_25, ↓e_X9_lots_26, ↓e_X9_lots_30, ↓e_X9_lots_35, ↓e_X9_lots_39, ↓e_X9_lots_41, v9 o9_129, m_in, hr, zps_s, bI_0, m_r0, zk_i, zk_r, zk_n, ↓reduceIte]
  | true =>
    cases hb : inB c (nI nc) with
    | false =>
      refine op_ref hI 0 (-10) (fun K => ?_) (fun z1 K hr' e => ?_)
      · simp only [↓c_X8_lots, ↓e_X8_lots_0, ↓e_X8_lots_4, ↓e_X8_lots_7, ↓e_X8_lots_11, ↓e_X8_lots_14, ↓e_X8_lots_18, ↓e_X8_lots_21, ↓e_X8_lots_29, ↓e_X8_lots_30, ↓e_X8_lots_34, ↓e_X8_lots_38, ↓e_X8_lots_41, ↓e_X8_lots_45, ↓e_X8_lots_49, ↓e_X8_lots_52, ↓e_X8_lots_56, ↓e_X8_lots_59, ↓e_X8_lots_61, x_isRule, hr, hb, g8 o8_0, g7 o7_1, v6 o6_2, v8 o8_0, Nat.reduceAdd, s_hasChild o6_2, hc.2.1, x_bad, zps_s, bI_0, zk_i, zk_r, zk_n, reduceCtorEq, ↓reduceIte]
      · simp only [↓c_X9_lots, ↓e_X9_lots_0, ↓e_X9_lots_7, ↓e_X9_lots_10, ↓e_X9_lots_15, ↓e_X9_lots_18, ↓e_X9_lots_25, ↓e_X9_lots_26, ↓e_X9_lots_30, ↓e_X9_lots_35, ↓e_X9_lots_39, ↓e_X9_lots_41, v9 o9_129, m_in, hr, m_isChild E (d + 2) n2 (show z1.1 130 105 = nI nc by rw [hr' 130 (by decide)]; exact hm.2.1), hb, zps_s, bI_0, m_r0, zk_i, zk_r, zk_n, reduceCtorEq, ↓reduceIte]
    | true =>
      obtain ⟨j, hj, rfl⟩ := of_inB rfl n2 hb
      obtain ⟨f, hf, fr, f4, f0, f2, f90, f87⟩ := l_ready h r
      have lp := l_prepare E (d + 2) r z.1 z.2
      rw [← hf] at lp
      have lr := l_run E (d + 1) (z := (f, z.2)) hn.2.1 f4 f0
      have hw : ∀ c, c < nc → ∀ k, k < 3 → orN (f 90 (3 * c + k)) np := fun c hc k hk => by
        rw [f90 _ (by omega), (q_wish h (show 3 * c + k < 3 * nc by omega)).1]
        exact (q_wish h (show 3 * c + k < 3 * nc by omega)).2
      have er := ru_ll (z := (f, z.2)) hn.2.1 hn.1 hw
      rw [show ((f, z.2) : zS).1 = f from rfl, show ((f, z.2) : zS).2 = z.2 from rfl] at lr er
      obtain ⟨f1, hf1⟩ : ∃ g : Nat → Nat → Int32, g = setR (setR f 77 (ruZ (f, z.2) nc np).1) 76 (upd (f 76) 3 (ruZ (f, z.2) nc np).2) := ⟨_, rfl⟩
      rw [← hf1] at lr
      have r1 : ∀ a, a ≠ 76 → a ≠ 77 → f1 a = f a := fun a h1 h2 => by rw [hf1, setR_n h1, setR_n h2]
      have e130 : f1 130 = z.1 130 := by rw [r1 130 (by decide) (by decide), fr 130 (by omega)]
      obtain ⟨g1, hg1⟩ : ∃ g : Nat → Nat → Int32, g = itr (mvF 138 0 130 66) 18 f1 := ⟨_, rfl⟩
      have tw := m_takesWishes E (d + 3) f1 z.2
      rw [← hg1] at tw
      have rg : ∀ a, a ≠ 138 → g1 a = f1 a := fun a ha => by rw [hg1, mv_r ha]
      have g138 : ∀ x, x < 18 → g1 138 x = z.1 130 (66 + x) := fun x hx => by rw [hg1, m_lotsOf (z := z) f1 e130 x hx]
      have ll := m_layLots E (d + 1) hn.2.1 (z := (g1, z.2)) (show g1 130 105 = nI nc by rw [rg 130 (by decide), e130]; exact hm.2.1) r
      rw [show ((g1, z.2) : zS).1 = g1 from rfl, show ((g1, z.2) : zS).2 = z.2 from rfl] at ll
      have same : llZ (f 90) nc (f 76 2) (f 77) j = llZ (g1 138) nc r (g1 139) j := by
        rw [f2]
        exact ll_c hn.2.1 (fun x hx => by rw [f90 x (by omega), g138 x (by omega), (q_wish h hx).1]) j (by omega)
      have got : f1 77 j = llZ (g1 138) nc r (g1 139) j := by
        rw [hf1, setR_n (by decide), setR_s, er, same]
      refine ⟨llZ (g1 138) nc r (g1 139) j, (f1, z.2), (setR g1 139 (llZ (g1 138) nc r (g1 139)), z.2), fun K => ?_, fun K => ?_, ?_⟩
      · simp only [↓c_X8_lots, ↓e_X8_lots_0, ↓e_X8_lots_4, ↓e_X8_lots_7, ↓e_X8_lots_11, ↓e_X8_lots_14, ↓e_X8_lots_18, ↓e_X8_lots_21, ↓e_X8_lots_29, ↓e_X8_lots_30, ↓e_X8_lots_34, ↓e_X8_lots_38, ↓e_X8_lots_41, ↓e_X8_lots_45, ↓e_X8_lots_49, ↓e_X8_lots_52, ↓e_X8_lots_56, ↓e_X8_lots_59, ↓e_X8_lots_61, x_isRule, hr, hb, g8 o8_0, g7 o7_1, g3 o3_76, v6 o6_2, v3 o3_76, Nat.reduceAdd, s_hasChild o6_2, hc.2.1, lp, lr, ri_k i77 (show j < 6 by omega) (by decide), got, zps_s, zps_n, bI_0, zk_i, zk_r, zk_n, reduceCtorEq, ↓reduceIte]
      · have e105 : f1 130 105 = nI nc := by rw [e130]; exact hm.2.1
        simp only [↓c_X9_lots, ↓e_X9_lots_0, ↓e_X9_lots_7, ↓e_X9_lots_10, ↓e_X9_lots_15, ↓e_X9_lots_18, ↓e_X9_lots_25, ↓e_X9_lots_26, ↓e_X9_lots_30, ↓e_X9_lots_35, ↓e_X9_lots_39, ↓e_X9_lots_41, g9 o9_129, v9 o9_129, Nat.reduceAdd, m_in, hr, m_isChild E (d + 2) n2 (z := (f1, z.2)) e105, hb, tw, ll, ri_k i139 (show j < 6 by omega) (by decide), setR_s, zps_s, zps_n, bI_0, zk_i, zk_r, zk_n, reduceCtorEq, ↓reduceIte]
      · refine Inv_keep (z := z) (fun a ha => ?_) rfl rfl rfl hI
        show setR g1 139 _ a = z.1 a
        rw [setR_n (by omega), rg a (by omega), r1 a (by omega) (by omega), fr a (by omega)]
