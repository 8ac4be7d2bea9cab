/-! copies of a State, place by place -/
theorem cpL_mem : ∀ (ps : List (Nat × Nat)) (_ : (ps.map Prod.fst).Nodup) {a b : Nat} (_ : (a, b) ∈ ps), cpL ps a = b
  | [], _, _, _, hm => absurd hm (List.not_mem_nil)
  | (r, s) :: ps, hn, a, b, hm => by
    have hn' := List.nodup_cons.mp (show (r :: ps.map Prod.fst).Nodup from hn)
    have ih := fun e => cpL_mem ps hn'.2 (a := a) (b := b) e
    unfold cpL at ih ⊢
    rw [List.lookup_cons]
    rcases List.mem_cons.mp hm with e | e
    · cases e
      simp
    · have hne : a ≠ r := fun h => hn'.1 (h ▸ List.mem_map.mpr ⟨(a, b), e, rfl⟩)
      have hb : (a == r) = false := by simpa using hne
      rw [hb]
      exact ih e
theorem cp_at {ps : List (Nat × Nat)} (hd : ∀ q ∈ ps, ∀ r ∈ ps, q.2 ≠ r.1) (hn : (ps.map Prod.fst).Nodup) {a b k n : Nat} (f : Nat → Nat → Int32) (hm : (a, b) ∈ ps) (hk : k < n) : itr (cpF ps) n f a k = f b k := by
  rw [cp_itr hd hn]
  unfold cpN
  rw [if_pos hk, cpL_mem ps hn hm]
theorem cpF_fr {a i : Nat} : ∀ (ps : List (Nat × Nat)) (f : Nat → Nat → Int32), (∀ q ∈ ps, a ≠ q.1) → cpF ps i f a = f a
  | [], f, _ => rfl
  | (r, s) :: ps, f, h => by
    show cpF ps i (set2 f r i (f s i)) a = f a
    rw [cpF_fr ps _ (fun q hq => h q (List.mem_cons_of_mem _ hq)), set2_a (h (r, s) List.mem_cons_self)]
theorem cp_fr {ps : List (Nat × Nat)} {a : Nat} (h : ∀ q ∈ ps, a ≠ q.1) (f : Nat → Nat → Int32) : ∀ n, itr (cpF ps) n f a = f a
  | 0 => rfl
  | n + 1 => by
    show cpF ps n (itr (cpF ps) n f) a = f a
    rw [cpF_fr ps _ h, cp_fr h f n]
def cpT (o q : Nat) (f : Nat → Nat → Int32) : Nat → Nat → Int32 := cpD o q (cpC o q (cpB o q (cpA o q f)))
theorem cpT_at {o q : Nat} (hd : o + 18 < q ∨ q + 18 < o) (f : Nat → Nat → Int32) : (∀ a, (a < o ∨ o + 18 < a) → cpT o q f a = f a) ∧ ∀ j i, okI j i → cpT o q f (j + o) i = f (j + q) i := by
  obtain ⟨L0, e0⟩ : ∃ L : Nat → Nat → Int32, L = set2 (set2 (set2 f (o + 1) 0 (f (q + 1) 0)) (o + 1) 4 (f (q + 1) 4)) (o + 1) 11 (f (q + 1) 11) := ⟨_, rfl⟩
  obtain ⟨L1, e1⟩ : ∃ L : Nat → Nat → Int32, L = itr (cpF [(o + 1 + 1, q + 1 + 1), (o + 1 + 2, q + 1 + 2), (o + 1 + 3, q + 1 + 3)]) 6 L0 := ⟨_, rfl⟩
  obtain ⟨L2, e2⟩ : ∃ L : Nat → Nat → Int32, L = itr (cpF [(o + 1 + 4, q + 1 + 4), (o + 1 + 5, q + 1 + 5), (o + 1 + 6, q + 1 + 6), (o + 1 + 7, q + 1 + 7), (o + 1 + 8, q + 1 + 8)]) 6 L1 := ⟨_, rfl⟩
  obtain ⟨L3, e3⟩ : ∃ L : Nat → Nat → Int32, L = itr (cpF [(o + 1 + 9, q + 1 + 9)]) 18 L2 := ⟨_, rfl⟩
  obtain ⟨L4, e4⟩ : ∃ L : Nat → Nat → Int32, L = itr (cpF [(o + 1 + 10, q + 1 + 10), (o + 1 + 11, q + 1 + 11)]) 7 L3 := ⟨_, rfl⟩
  obtain ⟨L5, e5⟩ : ∃ L : Nat → Nat → Int32, L = itr (cpF [(o + 13, q + 13), (o + 14, q + 14), (o + 15, q + 15)]) 6 L4 := ⟨_, rfl⟩
  obtain ⟨L6, e6⟩ : ∃ L : Nat → Nat → Int32, L = itr (cpF [(o + 16, q + 16)]) 6 L5 := ⟨_, rfl⟩
  obtain ⟨L7, e7⟩ : ∃ L : Nat → Nat → Int32, L = set2 (set2 L6 o 5 (L6 q 5)) o 6 (L6 q 6) := ⟨_, rfl⟩
  obtain ⟨L8, e8⟩ : ∃ L : Nat → Nat → Int32, L = itr (cpF [(o + 17, q + 17)]) 240 L7 := ⟨_, rfl⟩
  obtain ⟨L9, e9⟩ : ∃ L : Nat → Nat → Int32, L = set2 L8 o 8 (L8 q 8) := ⟨_, rfl⟩
  obtain ⟨L10, e10⟩ : ∃ L : Nat → Nat → Int32, L = itr (cpF [(o + 18, q + 18)]) 10 L9 := ⟨_, rfl⟩
  obtain ⟨L11, e11⟩ : ∃ L : Nat → Nat → Int32, L = set2 L10 o 10 (L10 q 10) := ⟨_, rfl⟩
  have eT : cpT o q f = L11 := by
    rw [e11, e10, e9, e8, e7, e6, e5, e4, e3, e2, e1, e0]
    rfl
  have t0 : ∀ a, a ≠ o + 1 → L0 a = f a := fun a ha => by rw [e0, set2_a ha, set2_a ha, set2_a ha]
  have d1 : ∀ x ∈ ([(o + 1 + 1, q + 1 + 1), (o + 1 + 2, q + 1 + 2), (o + 1 + 3, q + 1 + 3)] : List (Nat × Nat)), ∀ y ∈ ([(o + 1 + 1, q + 1 + 1), (o + 1 + 2, q + 1 + 2), (o + 1 + 3, q + 1 + 3)] : List (Nat × Nat)), x.2 ≠ y.1 := by
    intro x hx y hy
    simp only [List.mem_cons, List.not_mem_nil, or_false] at hx hy
    rcases hx with rfl | rfl | rfl <;> rcases hy with rfl | rfl | rfl <;> dsimp only <;> omega
  have n1 : (([(o + 1 + 1, q + 1 + 1), (o + 1 + 2, q + 1 + 2), (o + 1 + 3, q + 1 + 3)] : List (Nat × Nat)).map Prod.fst).Nodup := by simp
  have t1 : ∀ a, a ≠ o + 2 ∧ a ≠ o + 3 ∧ a ≠ o + 4 → L1 a = L0 a := fun a ha => by
    rw [e1]
    refine cp_fr (fun x hx => ?_) _ 6
    simp only [List.mem_cons, List.not_mem_nil, or_false] at hx
    rcases hx with rfl | rfl | rfl <;> dsimp only <;> omega
  have d2 : ∀ x ∈ ([(o + 1 + 4, q + 1 + 4), (o + 1 + 5, q + 1 + 5), (o + 1 + 6, q + 1 + 6), (o + 1 + 7, q + 1 + 7), (o + 1 + 8, q + 1 + 8)] : List (Nat × Nat)), ∀ y ∈ ([(o + 1 + 4, q + 1 + 4), (o + 1 + 5, q + 1 + 5), (o + 1 + 6, q + 1 + 6), (o + 1 + 7, q + 1 + 7), (o + 1 + 8, q + 1 + 8)] : List (Nat × Nat)), x.2 ≠ y.1 := by
    intro x hx y hy
    simp only [List.mem_cons, List.not_mem_nil, or_false] at hx hy
    rcases hx with rfl | rfl | rfl | rfl | rfl <;> rcases hy with rfl | rfl | rfl | rfl | rfl <;> dsimp only <;> omega
  have n2 : (([(o + 1 + 4, q + 1 + 4), (o + 1 + 5, q + 1 + 5), (o + 1 + 6, q + 1 + 6), (o + 1 + 7, q + 1 + 7), (o + 1 + 8, q + 1 + 8)] : List (Nat × Nat)).map Prod.fst).Nodup := by simp
  have t2 : ∀ a, a ≠ o + 5 ∧ a ≠ o + 6 ∧ a ≠ o + 7 ∧ a ≠ o + 8 ∧ a ≠ o + 9 → L2 a = L1 a := fun a ha => by
    rw [e2]
    refine cp_fr (fun x hx => ?_) _ 6
    simp only [List.mem_cons, List.not_mem_nil, or_false] at hx
    rcases hx with rfl | rfl | rfl | rfl | rfl <;> dsimp only <;> omega
  have d3 : ∀ x ∈ ([(o + 1 + 9, q + 1 + 9)] : List (Nat × Nat)), ∀ y ∈ ([(o + 1 + 9, q + 1 + 9)] : List (Nat × Nat)), x.2 ≠ y.1 := by
    intro x hx y hy
    simp only [List.mem_cons, List.not_mem_nil, or_false] at hx hy
    subst hx
    subst hy
    dsimp only
    omega
  have n3 : (([(o + 1 + 9, q + 1 + 9)] : List (Nat × Nat)).map Prod.fst).Nodup := by simp
  have t3 : ∀ a, a ≠ o + 10 → L3 a = L2 a := fun a ha => by
    rw [e3]
    refine cp_fr (fun x hx => ?_) _ 18
    simp only [List.mem_cons, List.not_mem_nil, or_false] at hx
    subst hx
    dsimp only
    omega
  have d4 : ∀ x ∈ ([(o + 1 + 10, q + 1 + 10), (o + 1 + 11, q + 1 + 11)] : List (Nat × Nat)), ∀ y ∈ ([(o + 1 + 10, q + 1 + 10), (o + 1 + 11, q + 1 + 11)] : List (Nat × Nat)), x.2 ≠ y.1 := by
    intro x hx y hy
    simp only [List.mem_cons, List.not_mem_nil, or_false] at hx hy
    rcases hx with rfl | rfl <;> rcases hy with rfl | rfl <;> dsimp only <;> omega
  have n4 : (([(o + 1 + 10, q + 1 + 10), (o + 1 + 11, q + 1 + 11)] : List (Nat × Nat)).map Prod.fst).Nodup := by simp
  have t4 : ∀ a, a ≠ o + 11 ∧ a ≠ o + 12 → L4 a = L3 a := fun a ha => by
    rw [e4]
    refine cp_fr (fun x hx => ?_) _ 7
    simp only [List.mem_cons, List.not_mem_nil, or_false] at hx
    rcases hx with rfl | rfl <;> dsimp only <;> omega
  have d5 : ∀ x ∈ ([(o + 13, q + 13), (o + 14, q + 14), (o + 15, q + 15)] : List (Nat × Nat)), ∀ y ∈ ([(o + 13, q + 13), (o + 14, q + 14), (o + 15, q + 15)] : List (Nat × Nat)), x.2 ≠ y.1 := by
    intro x hx y hy
    simp only [List.mem_cons, List.not_mem_nil, or_false] at hx hy
    rcases hx with rfl | rfl | rfl <;> rcases hy with rfl | rfl | rfl <;> dsimp only <;> omega
  have n5 : (([(o + 13, q + 13), (o + 14, q + 14), (o + 15, q + 15)] : List (Nat × Nat)).map Prod.fst).Nodup := by simp
  have t5 : ∀ a, a ≠ o + 13 ∧ a ≠ o + 14 ∧ a ≠ o + 15 → L5 a = L4 a := fun a ha => by
    rw [e5]
    refine cp_fr (fun x hx => ?_) _ 6
    simp only [List.mem_cons, List.not_mem_nil, or_false] at hx
    rcases hx with rfl | rfl | rfl <;> dsimp only <;> omega
  have d6 : ∀ x ∈ ([(o + 16, q + 16)] : List (Nat × Nat)), ∀ y ∈ ([(o + 16, q + 16)] : List (Nat × Nat)), x.2 ≠ y.1 := by
    intro x hx y hy
    simp only [List.mem_cons, List.not_mem_nil, or_false] at hx hy
    subst hx
    subst hy
    dsimp only
    omega
  have n6 : (([(o + 16, q + 16)] : List (Nat × Nat)).map Prod.fst).Nodup := by simp
  have t6 : ∀ a, a ≠ o + 16 → L6 a = L5 a := fun a ha => by
    rw [e6]
    refine cp_fr (fun x hx => ?_) _ 6
    simp only [List.mem_cons, List.not_mem_nil, or_false] at hx
    subst hx
    dsimp only
    omega
  have t7 : ∀ a, a ≠ o → L7 a = L6 a := fun a ha => by rw [e7, set2_a ha, set2_a ha]
  have d8 : ∀ x ∈ ([(o + 17, q + 17)] : List (Nat × Nat)), ∀ y ∈ ([(o + 17, q + 17)] : List (Nat × Nat)), x.2 ≠ y.1 := by
    intro x hx y hy
    simp only [List.mem_cons, List.not_mem_nil, or_false] at hx hy
    subst hx
    subst hy
    dsimp only
    omega
  have n8 : (([(o + 17, q + 17)] : List (Nat × Nat)).map Prod.fst).Nodup := by simp
  have t8 : ∀ a, a ≠ o + 17 → L8 a = L7 a := fun a ha => by
    rw [e8]
    refine cp_fr (fun x hx => ?_) _ 240
    simp only [List.mem_cons, List.not_mem_nil, or_false] at hx
    subst hx
    dsimp only
    omega
  have t9 : ∀ a, a ≠ o → L9 a = L8 a := fun a ha => by rw [e9, set2_a ha]
  have d10 : ∀ x ∈ ([(o + 18, q + 18)] : List (Nat × Nat)), ∀ y ∈ ([(o + 18, q + 18)] : List (Nat × Nat)), x.2 ≠ y.1 := by
    intro x hx y hy
    simp only [List.mem_cons, List.not_mem_nil, or_false] at hx hy
    subst hx
    subst hy
    dsimp only
    omega
  have n10 : (([(o + 18, q + 18)] : List (Nat × Nat)).map Prod.fst).Nodup := by simp
  have t10 : ∀ a, a ≠ o + 18 → L10 a = L9 a := fun a ha => by
    rw [e10]
    refine cp_fr (fun x hx => ?_) _ 10
    simp only [List.mem_cons, List.not_mem_nil, or_false] at hx
    subst hx
    dsimp only
    omega
  have t11 : ∀ a, a ≠ o → L11 a = L10 a := fun a ha => by rw [e11, set2_a ha]
  have fr : ∀ a, (a < o ∨ o + 18 < a) → L0 a = f a ∧ L1 a = f a ∧ L2 a = f a ∧ L3 a = f a ∧ L4 a = f a ∧ L5 a = f a ∧ L6 a = f a ∧ L7 a = f a ∧ L8 a = f a ∧ L9 a = f a ∧ L10 a = f a ∧ L11 a = f a := fun a ha => by
    have f0 := t0 a (by omega)
    have f1 := (t1 a (by omega)).trans f0
    have f2 := (t2 a (by omega)).trans f1
    have f3 := (t3 a (by omega)).trans f2
    have f4 := (t4 a (by omega)).trans f3
    have f5 := (t5 a (by omega)).trans f4
    have f6 := (t6 a (by omega)).trans f5
    have f7 := (t7 a (by omega)).trans f6
    have f8 := (t8 a (by omega)).trans f7
    have f9 := (t9 a (by omega)).trans f8
    have f10 := (t10 a (by omega)).trans f9
    have f11 := (t11 a (by omega)).trans f10
    exact ⟨f0, f1, f2, f3, f4, f5, f6, f7, f8, f9, f10, f11⟩
  rw [eT]
  refine ⟨fun a ha => (fr a ha).2.2.2.2.2.2.2.2.2.2.2, fun j i hj => ?_⟩
  have src : ∀ j, j ≤ 18 → (j + q < o ∨ o + 18 < j + q) := fun j hj => by omega
  unfold okI at hj
  rcases hj with ⟨rfl, hj⟩ | ⟨rfl, hj⟩ | hj
  · have s0 := fr q (by omega)
    show L11 (0 + o) i = f (0 + q) i
    rw [Nat.zero_add, Nat.zero_add]
    rcases hj with rfl | rfl | rfl | rfl
    · rw [e11, set2_n (Or.inr (by decide)), t10 o (by omega), e9, set2_n (Or.inr (by decide)), t8 o (by omega), e7, set2_n (Or.inr (by decide)), set2_s, s0.2.2.2.2.2.2.1]
    · rw [e11, set2_n (Or.inr (by decide)), t10 o (by omega), e9, set2_n (Or.inr (by decide)), t8 o (by omega), e7, set2_s, s0.2.2.2.2.2.2.1]
    · rw [e11, set2_n (Or.inr (by decide)), t10 o (by omega), e9, set2_s, s0.2.2.2.2.2.2.2.2.1]
    · rw [e11, set2_s, s0.2.2.2.2.2.2.2.2.2.2.1]
  · rw [t11 _ (by omega), t10 _ (by omega), t9 _ (by omega), t8 _ (by omega), t7 _ (by omega), t6 _ (by omega), t5 _ (by omega), t4 _ (by omega), t3 _ (by omega), t2 _ (by omega), t1 _ (by omega), e0, Nat.add_comm 1 o, Nat.add_comm 1 q]
    rcases hj with rfl | rfl | rfl
    · rw [set2_n (Or.inr (by decide)), set2_n (Or.inr (by decide)), set2_s]
    · rw [set2_n (Or.inr (by decide)), set2_s]
    · rw [set2_s]
  · have key : ∀ j i, 2 ≤ j → j ≤ 18 → (j ≤ 9 → i < 6) → (j = 10 → i < 18) → (11 ≤ j → j ≤ 12 → i < 7) → (13 ≤ j → j ≤ 16 → i < 6) → (j = 17 → i < 240) → (j = 18 → i < 10) → L11 (j + o) i = f (j + q) i := by
      intro j i h2 h18 c1 c2 c3 c4 c5 c6
      have s0 := fr (j + q) (by omega)
      obtain rfl | rfl | rfl | rfl | rfl | rfl | rfl | rfl | rfl | rfl | rfl | rfl | rfl | rfl | rfl | rfl | rfl : j = 2 ∨ j = 3 ∨ j = 4 ∨ j = 5 ∨ j = 6 ∨ j = 7 ∨ j = 8 ∨ j = 9 ∨ j = 10 ∨ j = 11 ∨ j = 12 ∨ j = 13 ∨ j = 14 ∨ j = 15 ∨ j = 16 ∨ j = 17 ∨ j = 18 := by omega
      · rw [t11 _ (by omega), t10 _ (by omega), t9 _ (by omega), t8 _ (by omega), t7 _ (by omega), t6 _ (by omega), t5 _ (by omega), t4 _ (by omega), t3 _ (by omega), t2 _ (by omega), e1, show 2 + o = o + 1 + 1 by omega, show 2 + q = q + 1 + 1 by omega, cp_at d1 n1 L0 (b := q + 1 + 1) (by simp) (by omega)]
        have := congrFun s0.1 i
        rw [show 2 + q = q + 1 + 1 by omega] at this
        exact this
      · rw [t11 _ (by omega), t10 _ (by omega), t9 _ (by omega), t8 _ (by omega), t7 _ (by omega), t6 _ (by omega), t5 _ (by omega), t4 _ (by omega), t3 _ (by omega), t2 _ (by omega), e1, show 3 + o = o + 1 + 2 by omega, show 3 + q = q + 1 + 2 by omega, cp_at d1 n1 L0 (b := q + 1 + 2) (by simp) (by omega)]
        have := congrFun s0.1 i
        rw [show 3 + q = q + 1 + 2 by omega] at this
        exact this
      · rw [t11 _ (by omega), t10 _ (by omega), t9 _ (by omega), t8 _ (by omega), t7 _ (by omega), t6 _ (by omega), t5 _ (by omega), t4 _ (by omega), t3 _ (by omega), t2 _ (by omega), e1, show 4 + o = o + 1 + 3 by omega, show 4 + q = q + 1 + 3 by omega, cp_at d1 n1 L0 (b := q + 1 + 3) (by simp) (by omega)]
        have := congrFun s0.1 i
        rw [show 4 + q = q + 1 + 3 by omega] at this
        exact this
      · rw [t11 _ (by omega), t10 _ (by omega), t9 _ (by omega), t8 _ (by omega), t7 _ (by omega), t6 _ (by omega), t5 _ (by omega), t4 _ (by omega), t3 _ (by omega), e2, show 5 + o = o + 1 + 4 by omega, show 5 + q = q + 1 + 4 by omega, cp_at d2 n2 L1 (b := q + 1 + 4) (by simp) (by omega)]
        have := congrFun s0.2.1 i
        rw [show 5 + q = q + 1 + 4 by omega] at this
        exact this
      · rw [t11 _ (by omega), t10 _ (by omega), t9 _ (by omega), t8 _ (by omega), t7 _ (by omega), t6 _ (by omega), t5 _ (by omega), t4 _ (by omega), t3 _ (by omega), e2, show 6 + o = o + 1 + 5 by omega, show 6 + q = q + 1 + 5 by omega, cp_at d2 n2 L1 (b := q + 1 + 5) (by simp) (by omega)]
        have := congrFun s0.2.1 i
        rw [show 6 + q = q + 1 + 5 by omega] at this
        exact this
      · rw [t11 _ (by omega), t10 _ (by omega), t9 _ (by omega), t8 _ (by omega), t7 _ (by omega), t6 _ (by omega), t5 _ (by omega), t4 _ (by omega), t3 _ (by omega), e2, show 7 + o = o + 1 + 6 by omega, show 7 + q = q + 1 + 6 by omega, cp_at d2 n2 L1 (b := q + 1 + 6) (by simp) (by omega)]
        have := congrFun s0.2.1 i
        rw [show 7 + q = q + 1 + 6 by omega] at this
        exact this
      · rw [t11 _ (by omega), t10 _ (by omega), t9 _ (by omega), t8 _ (by omega), t7 _ (by omega), t6 _ (by omega), t5 _ (by omega), t4 _ (by omega), t3 _ (by omega), e2, show 8 + o = o + 1 + 7 by omega, show 8 + q = q + 1 + 7 by omega, cp_at d2 n2 L1 (b := q + 1 + 7) (by simp) (by omega)]
        have := congrFun s0.2.1 i
        rw [show 8 + q = q + 1 + 7 by omega] at this
        exact this
      · rw [t11 _ (by omega), t10 _ (by omega), t9 _ (by omega), t8 _ (by omega), t7 _ (by omega), t6 _ (by omega), t5 _ (by omega), t4 _ (by omega), t3 _ (by omega), e2, show 9 + o = o + 1 + 8 by omega, show 9 + q = q + 1 + 8 by omega, cp_at d2 n2 L1 (b := q + 1 + 8) (by simp) (by omega)]
        have := congrFun s0.2.1 i
        rw [show 9 + q = q + 1 + 8 by omega] at this
        exact this
      · rw [t11 _ (by omega), t10 _ (by omega), t9 _ (by omega), t8 _ (by omega), t7 _ (by omega), t6 _ (by omega), t5 _ (by omega), t4 _ (by omega), e3, show 10 + o = o + 1 + 9 by omega, show 10 + q = q + 1 + 9 by omega, cp_at d3 n3 L2 (b := q + 1 + 9) (by simp) (by omega)]
        have := congrFun s0.2.2.1 i
        rw [show 10 + q = q + 1 + 9 by omega] at this
        exact this
      · rw [t11 _ (by omega), t10 _ (by omega), t9 _ (by omega), t8 _ (by omega), t7 _ (by omega), t6 _ (by omega), t5 _ (by omega), e4, show 11 + o = o + 1 + 10 by omega, show 11 + q = q + 1 + 10 by omega, cp_at d4 n4 L3 (b := q + 1 + 10) (by simp) (by omega)]
        have := congrFun s0.2.2.2.1 i
        rw [show 11 + q = q + 1 + 10 by omega] at this
        exact this
      · rw [t11 _ (by omega), t10 _ (by omega), t9 _ (by omega), t8 _ (by omega), t7 _ (by omega), t6 _ (by omega), t5 _ (by omega), e4, show 12 + o = o + 1 + 11 by omega, show 12 + q = q + 1 + 11 by omega, cp_at d4 n4 L3 (b := q + 1 + 11) (by simp) (by omega)]
        have := congrFun s0.2.2.2.1 i
        rw [show 12 + q = q + 1 + 11 by omega] at this
        exact this
      · rw [t11 _ (by omega), t10 _ (by omega), t9 _ (by omega), t8 _ (by omega), t7 _ (by omega), t6 _ (by omega), e5, show 13 + o = o + 13 by omega, show 13 + q = q + 13 by omega, cp_at d5 n5 L4 (b := q + 13) (by simp) (by omega)]
        have := congrFun s0.2.2.2.2.1 i
        rw [show 13 + q = q + 13 by omega] at this
        exact this
      · rw [t11 _ (by omega), t10 _ (by omega), t9 _ (by omega), t8 _ (by omega), t7 _ (by omega), t6 _ (by omega), e5, show 14 + o = o + 14 by omega, show 14 + q = q + 14 by omega, cp_at d5 n5 L4 (b := q + 14) (by simp) (by omega)]
        have := congrFun s0.2.2.2.2.1 i
        rw [show 14 + q = q + 14 by omega] at this
        exact this
      · rw [t11 _ (by omega), t10 _ (by omega), t9 _ (by omega), t8 _ (by omega), t7 _ (by omega), t6 _ (by omega), e5, show 15 + o = o + 15 by omega, show 15 + q = q + 15 by omega, cp_at d5 n5 L4 (b := q + 15) (by simp) (by omega)]
        have := congrFun s0.2.2.2.2.1 i
        rw [show 15 + q = q + 15 by omega] at this
        exact this
      · rw [t11 _ (by omega), t10 _ (by omega), t9 _ (by omega), t8 _ (by omega), t7 _ (by omega), e6, show 16 + o = o + 16 by omega, show 16 + q = q + 16 by omega, cp_at d6 n6 L5 (b := q + 16) (by simp) (by omega)]
        have := congrFun s0.2.2.2.2.2.1 i
        rw [show 16 + q = q + 16 by omega] at this
        exact this
      · rw [t11 _ (by omega), t10 _ (by omega), t9 _ (by omega), e8, show 17 + o = o + 17 by omega, show 17 + q = q + 17 by omega, cp_at d8 n8 L7 (b := q + 17) (by simp) (by omega)]
        have := congrFun s0.2.2.2.2.2.2.2.1 i
        rw [show 17 + q = q + 17 by omega] at this
        exact this
      · rw [t11 _ (by omega), e10, show 18 + o = o + 18 by omega, show 18 + q = q + 18 by omega, cp_at d10 n10 L9 (b := q + 18) (by simp) (by omega)]
        have := congrFun s0.2.2.2.2.2.2.2.2.2.1 i
        rw [show 18 + q = q + 18 by omega] at this
        exact this
    exact key j i (by omega) (by omega) (by omega) (by omega) (by omega) (by omega) (by omega) (by omega)
