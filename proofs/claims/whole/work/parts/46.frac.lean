/-! class Fraction over HP; Euclid -/
theorem lNi {n : Nat} (h : n < 2 ^ 63) : (lN n).toInt = (n : Int) := Int64.toInt_ofNat_of_lt h
theorem lN_ltI {a b : Nat} (ha : a < 2 ^ 63) (hb : b < 2 ^ 63) : (lN a < lN b) = (a < b) := by
  rw [Int64.lt_iff_toInt_lt, lNi ha, lNi hb]
  exact propext Int.ofNat_lt
theorem lN_0 : lN 0 = 0 := by decide
theorem lN_eq0 {a : Nat} (ha : a < 2 ^ 63) : (lN a = 0) = (a = 0) := by
  rw [← lN_0, ← Int64.toInt_inj, lNi ha, lNi (by decide)]
  exact propext Int.ofNat_inj
theorem lN_pos {a : Nat} (ha : a < 2 ^ 63) : ((0 : Int32) < lg_cmp (lN a) 0) = (0 < a) := by
  rw [← lN_ltI (a := 0) (by decide) ha, lN_0]
  exact propext (lg_cmp_gt _ _)
theorem lN_div {a b : Nat} (ha : a < 2 ^ 63) (hb : b < 2 ^ 63) : lN a / lN b = lN (a / b) := by
  have h : a / b < 2 ^ 63 := Nat.lt_of_le_of_lt (Nat.div_le_self a b) ha
  rw [← Int64.toInt_inj, Int64.toInt_div, lNi ha, lNi hb, lNi h, ← Int.ofNat_tdiv]
  generalize a / b = q at h ⊢
  exact Int.bmod_eq_of_le (by omega) (by omega)
theorem xN_sub {a b : Nat} (h : b ≤ a) : lN a - lN b = lN (a - b) := by
  have e : lN a = lN (a - b) + lN b := by
    rw [lN_add, Nat.sub_add_cancel h]
  rw [e, Int64.add_sub_cancel]
theorem lN_mod {a b : Nat} (ha : a < 2 ^ 63) (hb : b < 2 ^ 63) : lN a - lN a / lN b * lN b = lN (a % b) := by
  rw [lN_div ha hb, lN_mul, xN_sub (Nat.div_mul_le_self a b)]
  congr 1
  have := Nat.div_add_mod a b
  rw [Nat.mul_comm] at this
  omega
theorem eu_half {x y k : Nat} (hy : 0 < y) (hxy : y < x) (h : x * y < 2 ^ (k + 1)) : y * (x % y) < 2 ^ k := by
  have h1 : x % y < y := Nat.mod_lt _ hy
  have h2 : y + x % y ≤ x := by
    have h3 := Nat.div_add_mod x y
    have h4 : 1 ≤ x / y := (Nat.le_div_iff_mul_le hy).mpr (by omega)
    have h5 : y * 1 ≤ y * (x / y) := Nat.mul_le_mul_left y h4
    omega
  have h6 : y * (2 * (x % y)) ≤ y * x := Nat.mul_le_mul_left y (by omega)
  rw [Nat.mul_comm x y, Nat.pow_succ] at h
  have h7 : y * (2 * (x % y)) = 2 * (y * (x % y)) := by rw [Nat.mul_left_comm]
  omega
theorem eu_loop (E : zE) (d : Nat) (h : zH) (K : Option Value → zH → Prop) (a b : Int64) : ∀ (k i x y : Nat) (v w : Option Value), i + k = 100 → x < 2 ^ 63 → y < x → x * y < 2 ^ k → Ev E d zm_X2_common 9 [some (.long a), none, some (.long b), none, some (.long (lN x)), none, some (.long (lN y)), none, some (.int (nI i)), v, w] [] h K = K (some (.long (lN (Nat.gcd x y)))) h
  | 0, i, x, y, v, w, hi, hx, hxy, hm => by
    have hy : y = 0 := by
      rcases Nat.eq_zero_or_pos y with e | e
      · exact e
      · have := Nat.mul_le_mul (show 1 ≤ x by omega) e
        omega
    subst hy
    rw [e_X2_common_9]
    simp only [↓e_X2_common_16, ↓e_X2_common_23, ↓e_X2_common_28, ↓e_X2_common_44, lt_lit (n := 100) (x := 100) (by decide) (show i < 2 ^ 31 by omega) (by decide), show ¬ i < 100 from by omega, ↓reduceIte, Nat.gcd_zero_right]
  | k + 1, i, x, y, v, w, hi, hx, hxy, hm => by
    rw [e_X2_common_9]
    simp only [↓e_X2_common_16, ↓e_X2_common_23, ↓e_X2_common_28, ↓e_X2_common_44, lt_lit (n := 100) (x := 100) (by decide) (show i < 2 ^ 31 by omega) (by decide), show i < 100 from by omega, ↓reduceIte, lN_pos (show y < 2 ^ 63 by omega), lN_eq0 (show y < 2 ^ 63 by omega), lN_mod hx (show y < 2 ^ 63 by omega), zk_n, zk_l, nI_1]
    rcases Nat.eq_zero_or_pos y with e | e
    · subst e
      simp only [Nat.lt_irrefl, ↓reduceIte, Nat.gcd_zero_right]
    · simp only [e, ↓reduceIte, show ¬ y = 0 from by omega, not_false_eq_true, true_and]
      rw [eu_loop E d h K a b k (i + 1) y (x % y) _ _ (by omega) (by omega) (Nat.mod_lt _ e) (eu_half e hxy hm)]
      rw [Nat.gcd_comm x y, Nat.gcd_rec y x, Nat.gcd_comm]
theorem f_common (E : zE) (d : Nat) {a b : Nat} (ha : a < 2 ^ 40) (hb : b < 2 ^ 40) (h : zH) (K : Option Value → zH → Prop) : Cl E d 27 [.long (lN a), .long (lN b)] h K = K (some (.long (lN (Nat.gcd a b)))) h := by
  simp only [↓c_X2_common, ↓e_X2_common_0, ↓e_X2_common_16, ↓e_X2_common_23, ↓e_X2_common_28, ↓e_X2_common_44, zk_n, zk_l]
  rw [e_X2_common_9]
  simp only [↓e_X2_common_16, ↓e_X2_common_23, ↓e_X2_common_28, ↓e_X2_common_44, Int32.reduceLT, ↓reduceIte, lN_pos (show b < 2 ^ 63 by omega), lN_eq0 (show b < 2 ^ 63 by omega), lN_mod (show a < 2 ^ 63 by omega) (show b < 2 ^ 63 by omega), zk_n, zk_l]
  rcases Nat.eq_zero_or_pos b with e | e
  · subst e
    simp only [Nat.lt_irrefl, ↓reduceIte, Nat.gcd_zero_right]
  · simp only [e, ↓reduceIte, show ¬ b = 0 from by omega, not_false_eq_true, true_and]
    have hm : b * (a % b) < 2 ^ 99 := by
      have h1 : a % b < b := Nat.mod_lt _ e
      have h2 : b * (a % b) ≤ 2 ^ 40 * 2 ^ 40 := Nat.mul_le_mul (by omega) (by omega)
      omega
    have l := eu_loop E d h K (lN a) (lN b) 99 1 b (a % b) (some (.long (lN (a % b)))) none (by omega) (by omega) (Nat.mod_lt _ e) hm
    rw [show nI 1 = 0 + 1 from by decide] at l
    rw [l, Nat.gcd_comm a b, Nat.gcd_rec b a, Nat.gcd_comm]
