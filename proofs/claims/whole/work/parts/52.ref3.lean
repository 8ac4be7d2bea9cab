/-! the reference: fractions, ranks -/
theorem tl_loop (E : zE) (d : Nat) (h : zH) (K : Option Value → zH → Prop) (up down : Int64) {R : Prop} : ∀ (y x : Nat) (v w : Option Value), x < 2 ^ 63 → y < 2 ^ 63 → (∀ v w, Ev E d zm_X9_tell 31 [some (.ref 129), some (.long up), none, some (.long down), none, some (.long (lN (Nat.gcd x y))), none, some (.long 0), none, v, w] [] h K = R) → Ev E d zm_X9_tell 6 [some (.ref 129), some (.long up), none, some (.long down), none, some (.long (lN x)), none, some (.long (lN y)), none, v, w] [] h K = R := by
  intro y
  induction y using Nat.strongRecOn with
  | _ y ih =>
    intro x v w hx hy hR
    rw [e_X9_tell_6]
    simp only [propext (lg_cmp_eq (lN y) 0), lN_eq0 hy]
    rcases Nat.eq_zero_or_pos y with e | e
    · subst e
      rw [Nat.gcd_zero_right] at hR
      simp only [↓reduceIte, lN_0]
      exact hR v w
    · simp only [show ¬ y = 0 from by omega, ↓reduceIte]
      simp only [↓e_X9_tell_13, ↓e_X9_tell_18, ↓e_X9_tell_36, ↓e_X9_tell_39, ↓e_X9_tell_44, ↓e_X9_tell_47, lN_eq0 hy, show ¬ y = 0 from by omega, not_false_eq_true, true_and, lN_mod hx hy, zk_n, zk_l]
      refine ih (x % y) (Nat.mod_lt _ e) y _ _ hy (by have := Nat.mod_lt x e; omega) (fun v w => ?_)
      rw [show Nat.gcd y (x % y) = Nat.gcd x y from by rw [Nat.gcd_comm x y, Nat.gcd_rec y x, Nat.gcd_comm]]
      exact hR v w
theorem m_tell (E : zE) (d : Nat) {a b : Nat} (ha : a < 2 ^ 63) (hb : b < 2 ^ 63) (hb0 : 0 < b) (z : zS) (K : Option Value → zH → Prop) : Cl E d 194 [.ref 129, .long (lN a), .long (lN b)] (HP z) K = K (some (.int 1)) (HP (z.1, set2L (set2L z.2.1 129 17 (lN (a / Nat.gcd a b))) 129 18 (lN (b / Nat.gcd a b)), z.2.2)) := by
  have hg : 0 < Nat.gcd a b := Nat.gcd_pos_of_pos_right a hb0
  have hg' : Nat.gcd a b < 2 ^ 63 := by
    have := Nat.gcd_le_right a hb0
    omega
  simp only [↓c_X9_tell, ↓e_X9_tell_0, ↓e_X9_tell_13, ↓e_X9_tell_18, ↓e_X9_tell_31, ↓e_X9_tell_36, ↓e_X9_tell_39, ↓e_X9_tell_44, ↓e_X9_tell_47, zk_l, zk_r, zk_n]
  refine tl_loop E d (HP z) K (lN a) (lN b) a b _ _ hb ha (fun v w => ?_)
  rw [Nat.gcd_comm b a]
  simp only [↓e_X9_tell_13, ↓e_X9_tell_18, ↓e_X9_tell_31, ↓e_X9_tell_36, ↓e_X9_tell_39, ↓e_X9_tell_44, ↓e_X9_tell_47, p9 o9_129, lN_eq0 hg', show ¬ Nat.gcd a b = 0 from by omega, not_false_eq_true, true_and, lN_div ha hg', lN_div hb hg']
theorem D30 : (1073741824 : Int64) = lN (2 ^ 30) := by decide
theorem D30n : ((1073741824 : Int64) = 0) = False := by decide
theorem dv30 {n : Nat} (h : n < 2 ^ 63) : lN n / 1073741824 = lN (n / 2 ^ 30) := by rw [D30, lN_div h (by decide)]
theorem md30 {n : Nat} (h : n < 2 ^ 63) : lN n - lN n / 1073741824 * 1073741824 = lN (n % 2 ^ 30) := by rw [D30, lN_mod h (by decide)]
theorem m_limbs (E : zE) (d : Nat) {v : Nat} (hv : v < 2 ^ 40) (h : zH) (K : Option Value → zH → Prop) : Cl E d 213 [.long (lN v)] h K = K (some (.int (nI (lbN v)))) h := by
  have t1 : v / 2 ^ 30 < 2 ^ 30 := Nat.div_lt_of_lt_mul (by omega)
  have t2 : v / 2 ^ 30 / 2 ^ 30 = 0 := Nat.div_eq_of_lt t1
  simp only [↓c_X9_limbs, ↓e_X9_limbs_0, ↓e_X9_limbs_10, ↓e_X9_limbs_18, ↓e_X9_limbs_22, zk_l, zk_r, zk_i, zk_n]
  rw [e_X9_limbs_4]
  simp only [↓e_X9_limbs_10, ↓e_X9_limbs_18, ↓e_X9_limbs_22, zk_l, zk_r, zk_i, zk_n, lN_pos (show v < 2 ^ 63 by omega), dv30 (show v < 2 ^ 63 by omega), D30n, not_false_eq_true, true_and]
  unfold lbN
  by_cases h0 : v = 0
  · subst h0
    simp only [Nat.lt_irrefl, ↓reduceIte, nI_0]
  · simp only [show 0 < v from by omega, h0, ↓reduceIte]
    rw [e_X9_limbs_4]
    simp only [↓e_X9_limbs_10, ↓e_X9_limbs_18, ↓e_X9_limbs_22, zk_l, zk_r, zk_i, zk_n, lN_pos (show v / 2 ^ 30 < 2 ^ 63 by omega), dv30 (show v / 2 ^ 30 < 2 ^ 63 by omega), t2, D30n, not_false_eq_true, true_and]
    by_cases h1 : v < 2 ^ 30
    · have e : v / 2 ^ 30 = 0 := Nat.div_eq_of_lt h1
      simp only [e, h1, Nat.lt_irrefl, ↓reduceIte]
      rfl
    · have e : 0 < v / 2 ^ 30 := Nat.div_pos (by omega) (by omega)
      simp only [e, h1, ↓reduceIte]
      rw [e_X9_limbs_4]
      simp only [↓e_X9_limbs_10, ↓e_X9_limbs_18, ↓e_X9_limbs_22, zk_l, zk_r, zk_i, zk_n, lN_pos (show 0 < 2 ^ 63 by omega), Nat.lt_irrefl, ↓reduceIte]
      rfl
theorem m_limbOf (E : zE) (d : Nat) {v i : Nat} (hi : i < 2) (hv : v < 2 ^ 40) (h : zH) (K : Option Value → zH → Prop) : Cl E d 214 [.long (lN v), .int (nI i)] h K = K (some (.int (nI (v / 2 ^ (30 * i) % 2 ^ 30)))) h := by
  have t1 : v / 2 ^ 30 < 2 ^ 30 := Nat.div_lt_of_lt_mul (by omega)
  simp only [↓c_X9_limbOf, ↓e_X9_limbOf_0, ↓e_X9_limbOf_11, ↓e_X9_limbOf_16, ↓e_X9_limbOf_23, ↓e_X9_limbOf_28, zk_l, zk_r, zk_i, zk_n]
  rw [e_X9_limbOf_5]
  rcases (show i = 0 ∨ i = 1 by omega) with e | e <;> subst e
  · simp only [↓e_X9_limbOf_11, ↓e_X9_limbOf_16, ↓e_X9_limbOf_23, ↓e_X9_limbOf_28, nI_0, Int32.lt_irrefl, ↓reduceIte, D30n, not_false_eq_true, true_and, md30 (show v < 2 ^ 63 by omega), lN_i, Nat.mul_zero, Nat.pow_zero, Nat.div_one]
  · simp only [↓e_X9_limbOf_11, ↓e_X9_limbOf_16, ↓e_X9_limbOf_23, ↓e_X9_limbOf_28, show nI 1 = 1 from by decide, Int32.reduceLT, ↓reduceIte, D30n, not_false_eq_true, true_and, dv30 (show v < 2 ^ 63 by omega), zk_l, zk_r, zk_i, zk_n]
    rw [e_X9_limbOf_5]
    simp only [↓e_X9_limbOf_11, ↓e_X9_limbOf_16, ↓e_X9_limbOf_23, ↓e_X9_limbOf_28, Int32.reduceAdd, Int32.lt_irrefl, ↓reduceIte, D30n, not_false_eq_true, true_and, md30 (show v / 2 ^ 30 < 2 ^ 63 by omega), lN_i, Nat.mul_one]
theorem m_isOrNone (E : zE) (d : Nat) {n : Nat} (hn : n < 2 ^ 31) {z : zS} (hz : z.1 130 105 = nI n) (c : Int32) (K : Option Value → zH → Prop) : Cl E (d + 2) 168 [.ref 129, .int c] (HP z) K = K (some (.int (bI (decide (c = -1) || inB c (nI n))))) (HP z) := by
  simp only [↓c_X9_isOrNone, ↓e_X9_isOrNone_0, ↓e_X9_isOrNone_5, ↓e_X9_isOrNone_10, ↓e_X9_isOrNone_13, ↓e_X9_isOrNone_17, ↓e_X9_isOrNone_18, v9 o9_129, m_isChild E d hn hz, zps_s, bI_0, zk_i, zk_r, zk_n]
  by_cases h : c = -1
  · simp [h, bI]
  · cases inB c (nI n) <;> simp [h, bI]
theorem m_isWell (E : zE) (d : Nat) (c ill : Int32) (h : zH) (K : Option Value → zH → Prop) : Cl E d 190 [.int c, .int ill] h K = K (some (.int (bI (!decide (c = -1) && decide (ill >>> (c &&& 31) &&& 1 = 0))))) h := by
  simp only [↓c_X9_isWell, ↓e_X9_isWell_0, ↓e_X9_isWell_5, ↓e_X9_isWell_13, ↓e_X9_isWell_17, ↓e_X9_isWell_18, zk_i, zk_r, zk_n]
  by_cases h : c = -1
  · simp [h, bI]
  · by_cases h2 : ill >>> (c &&& 31) &&& 1 = 0 <;> simp [h, h2, bI]
theorem m_rank (E : zE) (d : Nat) {c : Nat} (hc : c < 6) (p : Int32) (z : zS) (K : Option Value → zH → Prop) : Cl E d 153 [.ref 129, .int (nI c), .int p] (HP z) K = K (some (.int (rkF (z.1 130 (66 + 3 * c)) (z.1 130 (66 + 3 * c + 1)) (z.1 130 (66 + 3 * c + 2)) p))) (HP z) := by
  have e0 : (66 : Int32) + 3 * nI c = nI (66 + 3 * c) := by
    rw [show (66 : Int32) = nI 66 from by decide, show (3 : Int32) = nI 3 from by decide, nI_mul, nI_add]
  have e2 : nI (66 + 3 * c) + 2 = nI (66 + 3 * c + 2) := nI_add _ 2
  have e3 : nI (66 + 3 * c) + 0 = nI (66 + 3 * c) := nI_add _ 0
  simp only [↓c_X9_rank, ↓e_X9_rank_0, ↓e_X9_rank_5, ↓e_X9_rank_10, ↓e_X9_rank_14, ↓e_X9_rank_24, ↓e_X9_rank_28, ↓e_X9_rank_33, ↓e_X9_rank_34, ↓e_X9_rank_41, g9 o9_129, Nat.reduceAdd, e0, e2, e3, nI_1, st_k (show 66 + 3 * c < 1083 by omega), st_k (show 66 + 3 * c + 1 < 1083 by omega), st_k (show 66 + 3 * c + 2 < 1083 by omega), zps_s, zk_i, zk_r, zk_n, Int32.reduceLT, show (2 : Int32) + -1 = 1 from by decide, show (1 : Int32) + -1 = 0 from by decide, show (0 : Int32) + -1 = -1 from by decide, show ((-1 : Int32) < 0) = True from by decide, ↓reduceIte, rkF]
  by_cases h0 : z.1 130 (66 + 3 * c) = p <;> by_cases h1 : z.1 130 (66 + 3 * c + 1) = p <;> by_cases h2 : z.1 130 (66 + 3 * c + 2) = p <;> simp only [h0, h1, h2, ↓reduceIte]
