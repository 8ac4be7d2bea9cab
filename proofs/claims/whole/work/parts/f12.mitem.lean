/-! READ: words and items, in the reference -/
section F12
variable {tx : Nat → Int32} {nl : Nat}
def isQ (tx : Nat → Int32) (s : Nat) (k l n a b c q : Int32) : Bool := decide (k = 1) && (decide (l = n) && (decide (tx s = a) && (decide (tx (s + 1) = b) && (decide (tx (s + 2) = c) && decide (tx (s + 3) = q)))))
theorem isQ_t {s : Nat} {k l n a b c q : Int32} : isQ tx s k l n a b c q = true ↔ k = 1 ∧ l = n ∧ tx s = a ∧ tx (s + 1) = b ∧ tx (s + 2) = c ∧ tx (s + 3) = q := by
  unfold isQ
  rw [Bool.and_eq_true, Bool.and_eq_true, Bool.and_eq_true, Bool.and_eq_true, Bool.and_eq_true, decide_eq_true_iff, decide_eq_true_iff, decide_eq_true_iff, decide_eq_true_iff, decide_eq_true_iff, decide_eq_true_iff]
theorem ix_3 (n : Nat) : nI n + 3 = nI (n + 3) := by rw [show (3 : Int32) = nI 3 from by decide, nI_add]
theorem ix_4 (n : Nat) : nI n + 4 = nI (n + 4) := by rw [show (4 : Int32) = nI 4 from by decide, nI_add]
theorem m_is (E : zE) (d : Nat) {f : Nat → Nat → Int32} {t : (Nat → Nat → Int64) × Nat} (hx : RM f tx nl) {s : Nat} (hs : s ≤ 240) (h5 : f 129 5 = nI s) (n a b c q : Int32) (K : Option Value → zH → Prop) : Cl E (d + 1) 138 [.ref 129, .int n, .int a, .int b, .int c, .int q] (HP (f, t)) K = K (some (.int (bI (isQ tx s (f 129 6) (f 129 4 - nI s) n a b c q)))) (HP (f, t)) := by
  have l0 := m_look E d (z := (f, t)) hx (show s < 1000 by omega)
  have l1 := m_look E d (z := (f, t)) hx (show s + 1 < 1000 by omega)
  have l2 := m_look E d (z := (f, t)) hx (show s + 2 < 1000 by omega)
  have l3 := m_look E d (z := (f, t)) hx (show s + 3 < 1000 by omega)
  unfold isQ
  by_cases h1 : f 129 6 = 1
  · have h1' : (f 129 6 = 1) = True := eq_true h1
    by_cases h2 : f 129 4 - nI s = n
    · have h2' : (f 129 4 - nI s = n) = True := eq_true h2
      by_cases h3 : tx s = a
      · have h3' : (tx s = a) = True := eq_true h3
        by_cases h4 : tx (s + 1) = b
        · have h4' : (tx (s + 1) = b) = True := eq_true h4
          by_cases h6 : tx (s + 2) = c
          · have h6' : (tx (s + 2) = c) = True := eq_true h6
            by_cases h7 : tx (s + 3) = q
            · have h7' : (tx (s + 3) = q) = True := eq_true h7
              rw [decide_eq_true h1, decide_eq_true h2, decide_eq_true h3, decide_eq_true h4, decide_eq_true h6, decide_eq_true h7]
              simp only [↓c_X9_is, ↓e_X9_is_0, ↓e_X9_is_4, ↓e_X9_is_8, ↓e_X9_is_12, ↓e_X9_is_16, ↓e_X9_is_21, ↓e_X9_is_26, ↓e_X9_is_29, ↓e_X9_is_33, ↓e_X9_is_38, ↓e_X9_is_43, ↓e_X9_is_47, ↓e_X9_is_52, ↓e_X9_is_57, ↓e_X9_is_62, ↓e_X9_is_67, ↓e_X9_is_72, ↓e_X9_is_77, ↓e_X9_is_81, ↓e_X9_is_82, g9 o9_129, v9 o9_129, h5, ix_1, ix_2, ix_3, l0, l1, l2, l3, h1', h2', h3', h4', h6', h7', Bool.true_and, bI_t, or_true, true_and, zps_s, zk_i, zk_r, zk_n, ↓reduceIte]
            · rw [decide_eq_true h1, decide_eq_true h2, decide_eq_true h3, decide_eq_true h4, decide_eq_true h6, decide_eq_false h7]
              simp only [↓c_X9_is, ↓e_X9_is_0, ↓e_X9_is_4, ↓e_X9_is_8, ↓e_X9_is_12, ↓e_X9_is_16, ↓e_X9_is_21, ↓e_X9_is_26, ↓e_X9_is_29, ↓e_X9_is_33, ↓e_X9_is_38, ↓e_X9_is_43, ↓e_X9_is_47, ↓e_X9_is_52, ↓e_X9_is_57, ↓e_X9_is_62, ↓e_X9_is_67, ↓e_X9_is_72, ↓e_X9_is_77, ↓e_X9_is_81, ↓e_X9_is_82, g9 o9_129, v9 o9_129, h5, ix_1, ix_2, ix_3, l0, l1, l2, l3, h1', h2', h3', h4', h6', h7, Bool.true_and, bI_f, true_or, true_and, zps_s, zk_i, zk_r, zk_n, ↓reduceIte]
          · rw [decide_eq_true h1, decide_eq_true h2, decide_eq_true h3, decide_eq_true h4, decide_eq_false h6]
            simp only [↓c_X9_is, ↓e_X9_is_0, ↓e_X9_is_4, ↓e_X9_is_8, ↓e_X9_is_12, ↓e_X9_is_16, ↓e_X9_is_21, ↓e_X9_is_26, ↓e_X9_is_29, ↓e_X9_is_33, ↓e_X9_is_38, ↓e_X9_is_43, ↓e_X9_is_47, ↓e_X9_is_52, ↓e_X9_is_57, ↓e_X9_is_62, ↓e_X9_is_67, ↓e_X9_is_72, ↓e_X9_is_77, ↓e_X9_is_81, ↓e_X9_is_82, g9 o9_129, v9 o9_129, h5, ix_1, ix_2, ix_3, l0, l1, l2, h1', h2', h3', h4', h6, Bool.true_and, Bool.false_and, bI_f, true_or, true_and, zps_s, zk_i, zk_r, zk_n, ↓reduceIte]
        · rw [decide_eq_true h1, decide_eq_true h2, decide_eq_true h3, decide_eq_false h4]
          simp only [↓c_X9_is, ↓e_X9_is_0, ↓e_X9_is_4, ↓e_X9_is_8, ↓e_X9_is_12, ↓e_X9_is_16, ↓e_X9_is_21, ↓e_X9_is_26, ↓e_X9_is_29, ↓e_X9_is_33, ↓e_X9_is_38, ↓e_X9_is_43, ↓e_X9_is_47, ↓e_X9_is_52, ↓e_X9_is_57, ↓e_X9_is_62, ↓e_X9_is_67, ↓e_X9_is_72, ↓e_X9_is_77, ↓e_X9_is_81, ↓e_X9_is_82, g9 o9_129, v9 o9_129, h5, ix_1, ix_2, ix_3, l0, l1, h1', h2', h3', h4, Bool.true_and, Bool.false_and, bI_f, true_or, true_and, zps_s, zk_i, zk_r, zk_n, ↓reduceIte]
      · rw [decide_eq_true h1, decide_eq_true h2, decide_eq_false h3]
        simp only [↓c_X9_is, ↓e_X9_is_0, ↓e_X9_is_4, ↓e_X9_is_8, ↓e_X9_is_12, ↓e_X9_is_16, ↓e_X9_is_21, ↓e_X9_is_26, ↓e_X9_is_29, ↓e_X9_is_33, ↓e_X9_is_38, ↓e_X9_is_43, ↓e_X9_is_47, ↓e_X9_is_52, ↓e_X9_is_57, ↓e_X9_is_62, ↓e_X9_is_67, ↓e_X9_is_72, ↓e_X9_is_77, ↓e_X9_is_81, ↓e_X9_is_82, g9 o9_129, v9 o9_129, h5, ix_1, ix_2, ix_3, l0, h1', h2', h3, Bool.true_and, Bool.false_and, bI_f, true_or, true_and, zps_s, zk_i, zk_r, zk_n, ↓reduceIte]
    · rw [decide_eq_true h1, decide_eq_false h2]
      simp only [↓c_X9_is, ↓e_X9_is_0, ↓e_X9_is_4, ↓e_X9_is_8, ↓e_X9_is_12, ↓e_X9_is_16, ↓e_X9_is_21, ↓e_X9_is_26, ↓e_X9_is_29, ↓e_X9_is_33, ↓e_X9_is_38, ↓e_X9_is_43, ↓e_X9_is_47, ↓e_X9_is_52, ↓e_X9_is_57, ↓e_X9_is_62, ↓e_X9_is_67, ↓e_X9_is_72, ↓e_X9_is_77, ↓e_X9_is_81, ↓e_X9_is_82, g9 o9_129, v9 o9_129, h5, h1', h2, Bool.true_and, Bool.false_and, bI_f, true_or, true_and, zps_s, zk_i, zk_r, zk_n, ↓reduceIte]
  · rw [decide_eq_false h1]
    simp only [↓c_X9_is, ↓e_X9_is_0, ↓e_X9_is_4, ↓e_X9_is_8, ↓e_X9_is_12, ↓e_X9_is_16, ↓e_X9_is_21, ↓e_X9_is_26, ↓e_X9_is_29, ↓e_X9_is_33, ↓e_X9_is_38, ↓e_X9_is_43, ↓e_X9_is_47, ↓e_X9_is_52, ↓e_X9_is_57, ↓e_X9_is_62, ↓e_X9_is_67, ↓e_X9_is_72, ↓e_X9_is_77, ↓e_X9_is_81, ↓e_X9_is_82, g9 o9_129, v9 o9_129, h5, h1, Bool.false_and, bI_f, true_or, true_and, zps_s, zk_i, zk_r, zk_n, ↓reduceIte]
theorem wd_0 {s e : Nat} : wdP tx s e 0 ↔ e = s + 4 ∧ tx s = 112 ∧ tx (s + 1) = 97 ∧ tx (s + 2) = 114 ∧ tx (s + 3) = 116 := by
  constructor
  · intro h
    exact ⟨h.1, h.2 0 (by decide), h.2 1 (by decide), h.2 2 (by decide), h.2 3 (by decide)⟩
  · rintro ⟨h0, h1, h2, h3, h4⟩
    refine ⟨h0, fun j hj => ?_⟩
    have hj' : j < 4 := hj
    rcases (by omega : j = 0 ∨ j = 1 ∨ j = 2 ∨ j = 3) with e | e | e | e
    · subst e; exact h1
    · subst e; exact h2
    · subst e; exact h3
    · subst e; exact h4
theorem wd_3 {s e : Nat} : wdP tx s e 3 ↔ e = s + 4 ∧ tx s = 119 ∧ tx (s + 1) = 105 ∧ tx (s + 2) = 115 ∧ tx (s + 3) = 104 := by
  constructor
  · intro h
    exact ⟨h.1, h.2 0 (by decide), h.2 1 (by decide), h.2 2 (by decide), h.2 3 (by decide)⟩
  · rintro ⟨h0, h1, h2, h3, h4⟩
    refine ⟨h0, fun j hj => ?_⟩
    have hj' : j < 4 := hj
    rcases (by omega : j = 0 ∨ j = 1 ∨ j = 2 ∨ j = 3) with e | e | e | e
    · subst e; exact h1
    · subst e; exact h2
    · subst e; exact h3
    · subst e; exact h4
theorem wd_1 {s e : Nat} : wdP tx s e 1 ↔ (e = s + 5 ∧ tx s = 99 ∧ tx (s + 1) = 104 ∧ tx (s + 2) = 105 ∧ tx (s + 3) = 108) ∧ tx (s + 4) = 100 := by
  constructor
  · intro h
    exact ⟨⟨h.1, h.2 0 (by decide), h.2 1 (by decide), h.2 2 (by decide), h.2 3 (by decide)⟩, h.2 4 (by decide)⟩
  · rintro ⟨⟨h0, h1, h2, h3, h4⟩, h5⟩
    refine ⟨h0, fun j hj => ?_⟩
    have hj' : j < 5 := hj
    rcases (by omega : j = 0 ∨ j = 1 ∨ j = 2 ∨ j = 3 ∨ j = 4) with e | e | e | e | e
    · subst e; exact h1
    · subst e; exact h2
    · subst e; exact h3
    · subst e; exact h4
    · subst e; exact h5
theorem wd_2 {s e : Nat} : wdP tx s e 2 ↔ (e = s + 5 ∧ tx s = 115 ∧ tx (s + 1) = 99 ∧ tx (s + 2) = 101 ∧ tx (s + 3) = 110) ∧ tx (s + 4) = 101 := by
  constructor
  · intro h
    exact ⟨⟨h.1, h.2 0 (by decide), h.2 1 (by decide), h.2 2 (by decide), h.2 3 (by decide)⟩, h.2 4 (by decide)⟩
  · rintro ⟨⟨h0, h1, h2, h3, h4⟩, h5⟩
    refine ⟨h0, fun j hj => ?_⟩
    have hj' : j < 5 := hj
    rcases (by omega : j = 0 ∨ j = 1 ∨ j = 2 ∨ j = 3 ∨ j = 4) with e | e | e | e | e
    · subst e; exact h1
    · subst e; exact h2
    · subst e; exact h3
    · subst e; exact h4
    · subst e; exact h5
theorem sub_l {s e n : Nat} (h : s ≤ e) (he : e ≤ 240) (hn : n ≤ 5) : nI e - nI s = nI n ↔ e = s + n := by
  rw [Int32.sub_eq_iff_eq_add, nI_add, nI_eq (by omega) (by omega)]
  omega
theorem bf_of {b : Bool} (h : ¬ b = true) : b = false := by
  cases b with
  | true => exact absurd rfl h
  | false => rfl
/-- which way an item goes -/
theorem m_way (E : zE) (d : Nat) {f : Nat → Nat → Int32} {t : (Nat → Nat → Int64) × Nat} (hx : RM f tx nl) {s e : Nat} (se : s ≤ e) (he : e ≤ 240) (h4 : f 129 4 = nI e) (h5 : f 129 5 = nI s) (h6 : f 129 6 = 1) : (wdP tx s e 0 → ∀ K, Cl E (d + 4) 146 [.ref 129] (HP (f, t)) K = Cl E (d + 3) 142 [.ref 129] (HP (f, t)) (fun r h1 => Ev E (d + 4) zm_X9_readItem 20 [some (.ref 129)] (zps r []) h1 K)) ∧ (wdP tx s e 1 → ∀ K, Cl E (d + 4) 146 [.ref 129] (HP (f, t)) K = Cl E (d + 3) 143 [.ref 129] (HP (f, t)) (fun r h1 => Ev E (d + 4) zm_X9_readItem 58 [some (.ref 129)] (zps r []) h1 K)) ∧ (wdP tx s e 2 → ∀ K, Cl E (d + 4) 146 [.ref 129] (HP (f, t)) K = Cl E (d + 3) 144 [.ref 129] (HP (f, t)) (fun r h1 => Ev E (d + 4) zm_X9_readItem 96 [some (.ref 129)] (zps r []) h1 K)) ∧ (wdP tx s e 3 → ∀ K, Cl E (d + 4) 146 [.ref 129] (HP (f, t)) K = Cl E (d + 3) 145 [.ref 129] (HP (f, t)) (fun r h1 => Ev E (d + 4) zm_X9_readItem 119 [some (.ref 129)] (zps r []) h1 K)) ∧ ((∀ a, a < 4 → ¬ wdP tx s e a) → ∀ K, Cl E (d + 4) 146 [.ref 129] (HP (f, t)) K = Cl E (d + 3) 139 [.ref 129, .int 0] (HP (f, t)) (fun r h1 => Ev E (d + 4) zm_X9_readItem 127 [some (.ref 129)] (zps r []) h1 K)) := by
  have I := m_is E (d + 2) (t := t) hx (show s ≤ 240 by omega) h5
  rw [h4, h6] at I
  have lk := m_look E (d + 3) (z := (f, t)) hx (show s + 4 < 1000 by omega)
  have q0 : isQ tx s 1 (nI e - nI s) 4 112 97 114 116 = true ↔ wdP tx s e 0 := by
    rw [isQ_t, wd_0, show (4 : Int32) = nI 4 from by decide, sub_l se he (by decide)]
    exact ⟨fun h => h.2, fun h => ⟨rfl, h⟩⟩
  have q3 : isQ tx s 1 (nI e - nI s) 4 119 105 115 104 = true ↔ wdP tx s e 3 := by
    rw [isQ_t, wd_3, show (4 : Int32) = nI 4 from by decide, sub_l se he (by decide)]
    exact ⟨fun h => h.2, fun h => ⟨rfl, h⟩⟩
  have q1 : (isQ tx s 1 (nI e - nI s) 5 99 104 105 108 = true ∧ tx (s + 4) = 100) ↔ wdP tx s e 1 := by
    rw [isQ_t, wd_1, show (5 : Int32) = nI 5 from by decide, sub_l se he (by decide)]
    exact ⟨fun h => ⟨h.1.2, h.2⟩, fun h => ⟨⟨rfl, h.1⟩, h.2⟩⟩
  have q2 : (isQ tx s 1 (nI e - nI s) 5 115 99 101 110 = true ∧ tx (s + 4) = 101) ↔ wdP tx s e 2 := by
    rw [isQ_t, wd_2, show (5 : Int32) = nI 5 from by decide, sub_l se he (by decide)]
    exact ⟨fun h => ⟨h.1.2, h.2⟩, fun h => ⟨⟨rfl, h.1⟩, h.2⟩⟩
  have not0 : ∀ x : Int32, tx s = x → ¬ x = 112 → isQ tx s 1 (nI e - nI s) 4 112 97 114 116 = false := fun x h1 h2 => bf_of (fun h => by
    have := (isQ_t.mp h).2.2.1
    rw [h1] at this
    exact h2 this)
  have not1 : ∀ x : Int32, tx s = x → ¬ x = 99 → isQ tx s 1 (nI e - nI s) 5 99 104 105 108 = false := fun x h1 h2 => bf_of (fun h => by
    have := (isQ_t.mp h).2.2.1
    rw [h1] at this
    exact h2 this)
  have not2 : ∀ x : Int32, tx s = x → ¬ x = 115 → isQ tx s 1 (nI e - nI s) 5 115 99 101 110 = false := fun x h1 h2 => bf_of (fun h => by
    have := (isQ_t.mp h).2.2.1
    rw [h1] at this
    exact h2 this)
  refine ⟨fun h K => ?_, fun h K => ?_, fun h K => ?_, fun h K => ?_, fun h K => ?_⟩
  · have b0 := q0.mpr h
    simp only [↓c_X9_readItem, ↓e_X9_readItem_0, ↓e_X9_readItem_13, ↓e_X9_readItem_16, ↓e_X9_readItem_23, ↓e_X9_readItem_36, ↓e_X9_readItem_39, ↓e_X9_readItem_44, ↓e_X9_readItem_49, ↓e_X9_readItem_54, ↓e_X9_readItem_61, ↓e_X9_readItem_74, ↓e_X9_readItem_77, ↓e_X9_readItem_82, ↓e_X9_readItem_87, ↓e_X9_readItem_92, ↓e_X9_readItem_99, ↓e_X9_readItem_112, ↓e_X9_readItem_115, ↓e_X9_readItem_122, ↓e_X9_readItem_132, ↓e_X9_readItem_136, ↓e_X9_readItem_140, ↓e_X9_readItem_141, ↓e_X9_readItem_144, ↓e_X9_readItem_148, ↓e_X9_readItem_151, ↓e_X9_readItem_155, g9 o9_129, v9 o9_129, I, b0, zps_s, bI_t, i01, zk_i, zk_r, zk_n, ↓reduceIte]
  · have b0 := not0 99 (wd_1.mp h).1.2.1 (by decide)
    obtain ⟨b1, b2⟩ := q1.mpr h
    have b2' : (tx (s + 4) = 100) = True := eq_true b2
    simp only [↓c_X9_readItem, ↓e_X9_readItem_0, ↓e_X9_readItem_13, ↓e_X9_readItem_16, ↓e_X9_readItem_23, ↓e_X9_readItem_36, ↓e_X9_readItem_39, ↓e_X9_readItem_44, ↓e_X9_readItem_49, ↓e_X9_readItem_54, ↓e_X9_readItem_61, ↓e_X9_readItem_74, ↓e_X9_readItem_77, ↓e_X9_readItem_82, ↓e_X9_readItem_87, ↓e_X9_readItem_92, ↓e_X9_readItem_99, ↓e_X9_readItem_112, ↓e_X9_readItem_115, ↓e_X9_readItem_122, ↓e_X9_readItem_132, ↓e_X9_readItem_136, ↓e_X9_readItem_140, ↓e_X9_readItem_141, ↓e_X9_readItem_144, ↓e_X9_readItem_148, ↓e_X9_readItem_151, ↓e_X9_readItem_155, g9 o9_129, v9 o9_129, I, b0, b1, h5, ix_4, lk, b2', zps_s, bI_t, bI_f, i01, zk_i, zk_r, zk_n, ↓reduceIte]
  · have b0 := not0 115 (wd_2.mp h).1.2.1 (by decide)
    have b1 := not1 115 (wd_2.mp h).1.2.1 (by decide)
    obtain ⟨b2, b3⟩ := q2.mpr h
    have b3' : (tx (s + 4) = 101) = True := eq_true b3
    simp only [↓c_X9_readItem, ↓e_X9_readItem_0, ↓e_X9_readItem_13, ↓e_X9_readItem_16, ↓e_X9_readItem_23, ↓e_X9_readItem_36, ↓e_X9_readItem_39, ↓e_X9_readItem_44, ↓e_X9_readItem_49, ↓e_X9_readItem_54, ↓e_X9_readItem_61, ↓e_X9_readItem_74, ↓e_X9_readItem_77, ↓e_X9_readItem_82, ↓e_X9_readItem_87, ↓e_X9_readItem_92, ↓e_X9_readItem_99, ↓e_X9_readItem_112, ↓e_X9_readItem_115, ↓e_X9_readItem_122, ↓e_X9_readItem_132, ↓e_X9_readItem_136, ↓e_X9_readItem_140, ↓e_X9_readItem_141, ↓e_X9_readItem_144, ↓e_X9_readItem_148, ↓e_X9_readItem_151, ↓e_X9_readItem_155, g9 o9_129, v9 o9_129, I, b0, b1, b2, h5, ix_4, lk, b3', zps_s, bI_t, bI_f, i01, zk_i, zk_r, zk_n, ↓reduceIte]
  · have b0 := not0 119 (wd_3.mp h).2.1 (by decide)
    have b1 := not1 119 (wd_3.mp h).2.1 (by decide)
    have b2 := not2 119 (wd_3.mp h).2.1 (by decide)
    have b3 := q3.mpr h
    simp only [↓c_X9_readItem, ↓e_X9_readItem_0, ↓e_X9_readItem_13, ↓e_X9_readItem_16, ↓e_X9_readItem_23, ↓e_X9_readItem_36, ↓e_X9_readItem_39, ↓e_X9_readItem_44, ↓e_X9_readItem_49, ↓e_X9_readItem_54, ↓e_X9_readItem_61, ↓e_X9_readItem_74, ↓e_X9_readItem_77, ↓e_X9_readItem_82, ↓e_X9_readItem_87, ↓e_X9_readItem_92, ↓e_X9_readItem_99, ↓e_X9_readItem_112, ↓e_X9_readItem_115, ↓e_X9_readItem_122, ↓e_X9_readItem_132, ↓e_X9_readItem_136, ↓e_X9_readItem_140, ↓e_X9_readItem_141, ↓e_X9_readItem_144, ↓e_X9_readItem_148, ↓e_X9_readItem_151, ↓e_X9_readItem_155, g9 o9_129, v9 o9_129, I, b0, b1, b2, b3, zps_s, bI_t, bI_f, i01, zk_i, zk_r, zk_n, ↓reduceIte]
  · have b0 := bf_of (fun q => h 0 (by decide) (q0.mp q))
    have b3 := bf_of (fun q => h 3 (by decide) (q3.mp q))
    have n1 : isQ tx s 1 (nI e - nI s) 5 99 104 105 108 = true → (tx (s + 4) = 100) = False := fun a => eq_false (fun b => h 1 (by decide) (q1.mp ⟨a, b⟩))
    have n2 : isQ tx s 1 (nI e - nI s) 5 115 99 101 110 = true → (tx (s + 4) = 101) = False := fun a => eq_false (fun b => h 2 (by decide) (q2.mp ⟨a, b⟩))
    generalize hb1 : isQ tx s 1 (nI e - nI s) 5 99 104 105 108 = b1 at n1
    generalize hb2 : isQ tx s 1 (nI e - nI s) 5 115 99 101 110 = b2 at n2
    cases b1 with
    | true =>
      have n1' := n1 rfl
      cases b2 with
      | true =>
        have n2' := n2 rfl
        simp only [↓c_X9_readItem, ↓e_X9_readItem_0, ↓e_X9_readItem_13, ↓e_X9_readItem_16, ↓e_X9_readItem_23, ↓e_X9_readItem_36, ↓e_X9_readItem_39, ↓e_X9_readItem_44, ↓e_X9_readItem_49, ↓e_X9_readItem_54, ↓e_X9_readItem_61, ↓e_X9_readItem_74, ↓e_X9_readItem_77, ↓e_X9_readItem_82, ↓e_X9_readItem_87, ↓e_X9_readItem_92, ↓e_X9_readItem_99, ↓e_X9_readItem_112, ↓e_X9_readItem_115, ↓e_X9_readItem_122, ↓e_X9_readItem_132, ↓e_X9_readItem_136, ↓e_X9_readItem_140, ↓e_X9_readItem_141, ↓e_X9_readItem_144, ↓e_X9_readItem_148, ↓e_X9_readItem_151, ↓e_X9_readItem_155, g9 o9_129, v9 o9_129, I, b0, hb1, hb2, b3, h5, ix_4, lk, n1', n2', zps_s, bI_t, bI_f, i01, zk_i, zk_r, zk_n, ↓reduceIte]
      | false =>
        simp only [↓c_X9_readItem, ↓e_X9_readItem_0, ↓e_X9_readItem_13, ↓e_X9_readItem_16, ↓e_X9_readItem_23, ↓e_X9_readItem_36, ↓e_X9_readItem_39, ↓e_X9_readItem_44, ↓e_X9_readItem_49, ↓e_X9_readItem_54, ↓e_X9_readItem_61, ↓e_X9_readItem_74, ↓e_X9_readItem_77, ↓e_X9_readItem_82, ↓e_X9_readItem_87, ↓e_X9_readItem_92, ↓e_X9_readItem_99, ↓e_X9_readItem_112, ↓e_X9_readItem_115, ↓e_X9_readItem_122, ↓e_X9_readItem_132, ↓e_X9_readItem_136, ↓e_X9_readItem_140, ↓e_X9_readItem_141, ↓e_X9_readItem_144, ↓e_X9_readItem_148, ↓e_X9_readItem_151, ↓e_X9_readItem_155, g9 o9_129, v9 o9_129, I, b0, hb1, hb2, b3, h5, ix_4, lk, n1', zps_s, bI_t, bI_f, i01, zk_i, zk_r, zk_n, ↓reduceIte]
    | false =>
      cases b2 with
      | true =>
        have n2' := n2 rfl
        simp only [↓c_X9_readItem, ↓e_X9_readItem_0, ↓e_X9_readItem_13, ↓e_X9_readItem_16, ↓e_X9_readItem_23, ↓e_X9_readItem_36, ↓e_X9_readItem_39, ↓e_X9_readItem_44, ↓e_X9_readItem_49, ↓e_X9_readItem_54, ↓e_X9_readItem_61, ↓e_X9_readItem_74, ↓e_X9_readItem_77, ↓e_X9_readItem_82, ↓e_X9_readItem_87, ↓e_X9_readItem_92, ↓e_X9_readItem_99, ↓e_X9_readItem_112, ↓e_X9_readItem_115, ↓e_X9_readItem_122, ↓e_X9_readItem_132, ↓e_X9_readItem_136, ↓e_X9_readItem_140, ↓e_X9_readItem_141, ↓e_X9_readItem_144, ↓e_X9_readItem_148, ↓e_X9_readItem_151, ↓e_X9_readItem_155, g9 o9_129, v9 o9_129, I, b0, hb1, hb2, b3, h5, ix_4, lk, n2', zps_s, bI_t, bI_f, i01, zk_i, zk_r, zk_n, ↓reduceIte]
      | false =>
        simp only [↓c_X9_readItem, ↓e_X9_readItem_0, ↓e_X9_readItem_13, ↓e_X9_readItem_16, ↓e_X9_readItem_23, ↓e_X9_readItem_36, ↓e_X9_readItem_39, ↓e_X9_readItem_44, ↓e_X9_readItem_49, ↓e_X9_readItem_54, ↓e_X9_readItem_61, ↓e_X9_readItem_74, ↓e_X9_readItem_77, ↓e_X9_readItem_82, ↓e_X9_readItem_87, ↓e_X9_readItem_92, ↓e_X9_readItem_99, ↓e_X9_readItem_112, ↓e_X9_readItem_115, ↓e_X9_readItem_122, ↓e_X9_readItem_132, ↓e_X9_readItem_136, ↓e_X9_readItem_140, ↓e_X9_readItem_141, ↓e_X9_readItem_144, ↓e_X9_readItem_148, ↓e_X9_readItem_151, ↓e_X9_readItem_155, g9 o9_129, v9 o9_129, I, b0, hb1, hb2, b3, zps_s, bI_t, bI_f, i01, zk_i, zk_r, zk_n, ↓reduceIte]
/-- no word -/
theorem m_way0 (E : zE) (d : Nat) {f : Nat → Nat → Int32} {t : (Nat → Nat → Int64) × Nat} (hx : RM f tx nl) {s : Nat} (hs : s ≤ 240) (h5 : f 129 5 = nI s) (h6 : ¬ f 129 6 = 1) (K : Option Value → zH → Prop) : Cl E (d + 4) 146 [.ref 129] (HP (f, t)) K = Cl E (d + 3) 139 [.ref 129, .int 0] (HP (f, t)) (fun r h1 => Ev E (d + 4) zm_X9_readItem 127 [some (.ref 129)] (zps r []) h1 K) := by
  have I := m_is E (d + 2) (t := t) hx hs h5
  have no : ∀ n a b c q, isQ tx s (f 129 6) (f 129 4 - nI s) n a b c q = false := fun n a b c q => bf_of (fun h => h6 (isQ_t.mp h).1)
  simp only [↓c_X9_readItem, ↓e_X9_readItem_0, ↓e_X9_readItem_13, ↓e_X9_readItem_16, ↓e_X9_readItem_23, ↓e_X9_readItem_36, ↓e_X9_readItem_39, ↓e_X9_readItem_44, ↓e_X9_readItem_49, ↓e_X9_readItem_54, ↓e_X9_readItem_61, ↓e_X9_readItem_74, ↓e_X9_readItem_77, ↓e_X9_readItem_82, ↓e_X9_readItem_87, ↓e_X9_readItem_92, ↓e_X9_readItem_99, ↓e_X9_readItem_112, ↓e_X9_readItem_115, ↓e_X9_readItem_122, ↓e_X9_readItem_132, ↓e_X9_readItem_136, ↓e_X9_readItem_140, ↓e_X9_readItem_141, ↓e_X9_readItem_144, ↓e_X9_readItem_148, ↓e_X9_readItem_151, ↓e_X9_readItem_155, g9 o9_129, v9 o9_129, I, no, zps_s, bI_f, zk_i, zk_r, zk_n, ↓reduceIte]
theorem m_endG (E : zE) (d : Nat) {f : Nat → Nat → Int32} {t : (Nat → Nat → Int64) × Nat} (hx : RM f tx nl) {j i' : Nat} (hj : j ≤ nl) (hL : LT tx f j) (h8 : f 129 8 = -1) (hS : StpS tx j i') : ∃ f', FrM f f' ∧ LT tx f' i' ∧ ∀ Q, Ev E (d + 4) zm_X9_readItem 127 [some (.ref 129)] [] (HP (f, t)) Q = Q none (HP (f', t)) := by
  obtain ⟨k3, k4⟩ := LT_3 hL hS
  have k3' : (f 129 6 = 3) = True := eq_true k3
  have g0 := m_isGood E (d + 3) (f, t)
  dsimp only at g0
  rw [decide_eq_true h8] at g0
  obtain ⟨r1, z1, ⟨x1, x2, x3, x4⟩, k1⟩ := Hr_use (m_tokL E (d + 2) (t := t) hx (stp_nl hx.2.2.2 hj hS) k4)
  subst x1
  obtain ⟨f1, tt⟩ := z1
  dsimp only at x2 x3 x4
  subst x2
  refine ⟨f1, x3, x4, fun Q => ?_⟩
  rw [e_X9_readItem_127]
  simp only [↓e_X9_readItem_13, ↓e_X9_readItem_16, ↓e_X9_readItem_23, ↓e_X9_readItem_36, ↓e_X9_readItem_39, ↓e_X9_readItem_44, ↓e_X9_readItem_49, ↓e_X9_readItem_54, ↓e_X9_readItem_61, ↓e_X9_readItem_74, ↓e_X9_readItem_77, ↓e_X9_readItem_82, ↓e_X9_readItem_87, ↓e_X9_readItem_92, ↓e_X9_readItem_99, ↓e_X9_readItem_112, ↓e_X9_readItem_115, ↓e_X9_readItem_122, ↓e_X9_readItem_132, ↓e_X9_readItem_136, ↓e_X9_readItem_140, ↓e_X9_readItem_141, ↓e_X9_readItem_144, ↓e_X9_readItem_148, ↓e_X9_readItem_151, ↓e_X9_readItem_155, g9 o9_129, v9 o9_129, k3', m_needs1, g0, k1, i01, bI_t, zps_s, zps_n, zk_i, zk_r, zk_n, ↓reduceIte]
theorem m_endF (E : zE) (d : Nat) {f : Nat → Nat → Int32} {t : (Nat → Nat → Int64) × Nat} (hx : RM f tx nl) {j s : Nat} (hj : j ≤ nl) (hL : LT tx f j) (h8 : f 129 8 = -1) (hS : StpF tx j s) (Q : Option Value → zH → Prop) : Ev E (d + 4) zm_X9_readItem 127 [some (.ref 129)] [] (HP (f, t)) Q = Q none (HP (set2 f 129 8 (nI s), t)) := by
  have h240 := hx.2.1
  have hs := stpF_nl hx.2.2.2 hj hS
  obtain ⟨k3, k5⟩ := LT_n hL hS
  have nd := m_needs0 E (d + 3) (f := f) (t := t) h8
  rw [k5] at nd
  obtain ⟨f1, hf1⟩ : ∃ g : Nat → Nat → Int32, g = set2 f 129 8 (nI s) := ⟨_, rfl⟩
  rw [← hf1] at nd ⊢
  have e8 : f1 129 8 = nI s := by rw [hf1, set2_s]
  have g0 := m_isGood E (d + 3) (f1, t)
  dsimp only at g0
  rw [decide_eq_false (show ¬ f1 129 8 = -1 by rw [e8]; exact s_nm (by omega))] at g0
  rw [e_X9_readItem_127]
  simp only [↓e_X9_readItem_13, ↓e_X9_readItem_16, ↓e_X9_readItem_23, ↓e_X9_readItem_36, ↓e_X9_readItem_39, ↓e_X9_readItem_44, ↓e_X9_readItem_49, ↓e_X9_readItem_54, ↓e_X9_readItem_61, ↓e_X9_readItem_74, ↓e_X9_readItem_77, ↓e_X9_readItem_82, ↓e_X9_readItem_87, ↓e_X9_readItem_92, ↓e_X9_readItem_99, ↓e_X9_readItem_112, ↓e_X9_readItem_115, ↓e_X9_readItem_122, ↓e_X9_readItem_132, ↓e_X9_readItem_136, ↓e_X9_readItem_140, ↓e_X9_readItem_141, ↓e_X9_readItem_144, ↓e_X9_readItem_148, ↓e_X9_readItem_151, ↓e_X9_readItem_155, g9 o9_129, v9 o9_129, k3, nd, g0, bI_f, zps_s, zps_n, zk_i, zk_r, zk_n, ↓reduceIte]
theorem m_endB (E : zE) (d : Nat) {f : Nat → Nat → Int32} {t : (Nat → Nat → Int64) × Nat} (h8 : ¬ f 129 8 = -1) (Q : Option Value → zH → Prop) : Ev E (d + 4) zm_X9_readItem 127 [some (.ref 129)] [] (HP (f, t)) Q = Q none (HP (f, t)) := by
  have nd := m_needs2 E (d + 3) (t := t) h8
  have g0 := m_isGood E (d + 3) (f, t)
  dsimp only at g0
  rw [decide_eq_false h8] at g0
  by_cases k3 : f 129 6 = 3
  · have k3' : (f 129 6 = 3) = True := eq_true k3
    rw [e_X9_readItem_127]
    simp only [↓e_X9_readItem_13, ↓e_X9_readItem_16, ↓e_X9_readItem_23, ↓e_X9_readItem_36, ↓e_X9_readItem_39, ↓e_X9_readItem_44, ↓e_X9_readItem_49, ↓e_X9_readItem_54, ↓e_X9_readItem_61, ↓e_X9_readItem_74, ↓e_X9_readItem_77, ↓e_X9_readItem_82, ↓e_X9_readItem_87, ↓e_X9_readItem_92, ↓e_X9_readItem_99, ↓e_X9_readItem_112, ↓e_X9_readItem_115, ↓e_X9_readItem_122, ↓e_X9_readItem_132, ↓e_X9_readItem_136, ↓e_X9_readItem_140, ↓e_X9_readItem_141, ↓e_X9_readItem_144, ↓e_X9_readItem_148, ↓e_X9_readItem_151, ↓e_X9_readItem_155, g9 o9_129, v9 o9_129, k3', nd, g0, bI_f, zps_s, zps_n, zk_i, zk_r, zk_n, ↓reduceIte]
  · rw [e_X9_readItem_127]
    simp only [↓e_X9_readItem_13, ↓e_X9_readItem_16, ↓e_X9_readItem_23, ↓e_X9_readItem_36, ↓e_X9_readItem_39, ↓e_X9_readItem_44, ↓e_X9_readItem_49, ↓e_X9_readItem_54, ↓e_X9_readItem_61, ↓e_X9_readItem_74, ↓e_X9_readItem_77, ↓e_X9_readItem_82, ↓e_X9_readItem_87, ↓e_X9_readItem_92, ↓e_X9_readItem_99, ↓e_X9_readItem_112, ↓e_X9_readItem_115, ↓e_X9_readItem_122, ↓e_X9_readItem_132, ↓e_X9_readItem_136, ↓e_X9_readItem_140, ↓e_X9_readItem_141, ↓e_X9_readItem_144, ↓e_X9_readItem_148, ↓e_X9_readItem_151, ↓e_X9_readItem_155, g9 o9_129, v9 o9_129, k3, nd, g0, bI_f, zps_s, zps_n, zk_i, zk_r, zk_n, ↓reduceIte]
end F12
