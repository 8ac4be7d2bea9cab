/-! tried, type -/
theorem x_isUpTo (E : zE) (d : Nat) {x m : Int32} {b : Bool} (hb : b = (!decide (x < 0) && !decide (m < x))) (h : zH) (K : Option Value → zH → Prop) : Cl E d 123 [.int x, .int m] h K = K (some (.int (bI b))) h := by
  subst hb
  by_cases q : x < 0
  · simp only [↓c_X8_isUpTo, ↓e_X8_isUpTo_0, ↓e_X8_isUpTo_4, ↓e_X8_isUpTo_9, ↓e_X8_isUpTo_13, ↓e_X8_isUpTo_14, q, decide_true, Bool.not_true, Bool.false_and, bI_f, true_or, true_and, ↓reduceIte]
  · by_cases q2 : m < x
    · simp only [↓c_X8_isUpTo, ↓e_X8_isUpTo_0, ↓e_X8_isUpTo_4, ↓e_X8_isUpTo_9, ↓e_X8_isUpTo_13, ↓e_X8_isUpTo_14, q, q2, decide_true, decide_false, Bool.not_true, Bool.not_false, Bool.and_false, bI_f, true_or, true_and, ↓reduceIte]
    · simp only [↓c_X8_isUpTo, ↓e_X8_isUpTo_0, ↓e_X8_isUpTo_4, ↓e_X8_isUpTo_9, ↓e_X8_isUpTo_13, ↓e_X8_isUpTo_14, q, q2, decide_false, Bool.not_false, Bool.and_true, bI_t, i01, or_true, true_and, ↓reduceIte]
theorem up_t {j n : Nat} (h : j ≤ n) (hn : n < 2 ^ 31) : true = (!decide (nI j < 0) && !decide (nI n < nI j)) := by
  rw [decide_eq_false (nI_pos (by omega)), decide_eq_false (nI_nlt h hn)]
  rfl
theorem up_f {x : Int32} {n : Nat} (h : x < nI 0 ∨ nI n < x) : false = (!decide (x < 0) && !decide (nI n < x)) := by
  rcases h with q | q
  · rw [decide_eq_true (show x < 0 from q)]
    rfl
  · rw [decide_eq_true q, Bool.not_true, Bool.and_false]
theorem itr_pow (g : Nat) : ∀ n, itr (fun _ b => b * lN g) n 1 = lN (g ^ n)
  | 0 => rfl
  | n + 1 => by
    show itr (fun _ b => b * lN g) n 1 * lN g = _
    rw [itr_pow g n, lN_mul, Nat.pow_succ]
theorem x_power (E : zE) (d : Nat) {b n : Nat} (hb : b < 2 ^ 31) (hn : n < 2 ^ 31) (h : zH) (K : Option Value → zH → Prop) : Cl E d 126 [.int (nI b), .int (nI n)] h K = K (some (.long (lN (b ^ n)))) h := by
  have l := itr_eq (fun i p => Ev E d zm_X8_power 5 [some (.int (nI b)), some (.int (nI n)), some (.long p), none, some (.int (nI i))] [] h K) (fun _ p => p * lN b) 1 n (fun i hi => by
    generalize itr _ i _ = p
    rw [e_X8_power_5]
    simp only [↓e_X8_power_11, ↓e_X8_power_22, zk_i, zk_r, zk_l, zk_n, nI_lt_iff (show i < 2 ^ 31 by omega) hn, hi, ↓reduceIte, nI_l hb, nI_1])
  rw [nI_0, itr_pow] at l
  simp only [↓c_X8_power, ↓e_X8_power_0, ↓e_X8_power_11, ↓e_X8_power_22, zk_i, zk_r, zk_l, zk_n]
  rw [l, e_X8_power_5]
  simp only [↓e_X8_power_11, ↓e_X8_power_22, nI_lt_iff hn hn, Nat.lt_irrefl, ↓reduceIte]
theorem pw_bd {g n k : Nat} (hg : g ≤ 10) (hk : k ≤ n) (hn : n ≤ 9) : g ^ k * (10 - g) ^ (n - k) ≤ 10 ^ 9 := by
  have h1 : g ^ k ≤ 10 ^ k := Nat.pow_le_pow_left hg k
  have h2 : (10 - g) ^ (n - k) ≤ 10 ^ (n - k) := Nat.pow_le_pow_left (by omega) _
  have h3 := Nat.mul_le_mul h1 h2
  rw [← Nat.pow_add, show k + (n - k) = n by omega] at h3
  exact Nat.le_trans h3 (Nat.pow_le_pow_right (by decide) hn)
theorem cmp0 {a : Nat} (ha : a < 2 ^ 63) : (lg_cmp (lN a) 0 = 0) = (a = 0) := by
  rw [← lN_eq0 ha]
  exact propext (lg_cmp_eq _ _)
theorem m_d10 : (10 : Int64).toInt = ((10 : Nat) : Int) := by decide
theorem m_d20 : (20 : Int64).toInt = ((20 : Nat) : Int) := by decide
theorem m_d9 : (9 : Int64).toInt = ((9 : Nat) : Int) := by decide
theorem m_d8 : (8 : Int64).toInt = ((8 : Nat) : Int) := by decide
theorem op_tried (E : zE) (d : Nat) {z : zS} (hI : Inv z) (a g h n k : Int32) : OpI E (d + 3) 108 208 [.int a, .int g, .int h, .int n, .int k] z := by
  have e20 : (20 : Int32) = nI 20 := rfl
  have e10 : (10 : Int32) = nI 10 := rfl
  rcases inL_c (x := a) 0 20 m_d0 m_d20 (by decide) (by decide) with ⟨ha, a, -, a2, rfl⟩ | ⟨ha, ha2⟩
  rotate_left
  · refine op_ref hI 0 (-2) (fun K => ?_) (fun z1 K hr e => ?_)
    · simp only [↓c_X8_tried, ↓e_X8_tried_0, ↓e_X8_tried_6, ↓e_X8_tried_9, ↓e_X8_tried_15, ↓e_X8_tried_18, ↓e_X8_tried_24, ↓e_X8_tried_27, ↓e_X8_tried_31, ↓e_X8_tried_32, ↓e_X8_tried_39, ↓e_X8_tried_45, ↓e_X8_tried_52, ↓e_X8_tried_59, ↓e_X8_tried_62, ↓e_X8_tried_70, ↓e_X8_tried_71, ↓e_X8_tried_79, ↓e_X8_tried_92, ↓e_X8_tried_106, ↓e_X8_tried_119, ↓e_X8_tried_132, ↓e_X8_tried_140, ↓e_X8_tried_141, ↓e_X8_tried_145, ↓e_X8_tried_155, e20, x_isUpTo E (d + 2) (up_f ha2), v8 o8_0, x_bad, zps_s, bI_0, zk_i, zk_r, zk_n, ↓reduceIte]
    · simp only [↓c_X9_tried, ↓e_X9_tried_0, ↓e_X9_tried_9, ↓e_X9_tried_12, ↓e_X9_tried_21, ↓e_X9_tried_24, ↓e_X9_tried_33, ↓e_X9_tried_36, ↓e_X9_tried_46, ↓e_X9_tried_49, ↓e_X9_tried_59, ↓e_X9_tried_62, ↓e_X9_tried_66, ↓e_X9_tried_67, ↓e_X9_tried_76, ↓e_X9_tried_90, ↓e_X9_tried_105, ↓e_X9_tried_119, ↓e_X9_tried_132, ↓e_X9_tried_139, ↓e_X9_tried_142, ↓e_X9_tried_153, v9 o9_129, m_in, ha, zps_s, bI_0, m_bad, zk_i, zk_r, zk_n, ↓reduceIte]
  rcases inL_c (x := g) 0 10 m_d0 m_d10 (by decide) (by decide) with ⟨hg, g, -, g2, rfl⟩ | ⟨hg, hg2⟩
  rotate_left
  · refine op_ref hI 0 (-2) (fun K => ?_) (fun z1 K hr e => ?_)
    · simp only [↓c_X8_tried, ↓e_X8_tried_0, ↓e_X8_tried_6, ↓e_X8_tried_9, ↓e_X8_tried_15, ↓e_X8_tried_18, ↓e_X8_tried_24, ↓e_X8_tried_27, ↓e_X8_tried_31, ↓e_X8_tried_32, ↓e_X8_tried_39, ↓e_X8_tried_45, ↓e_X8_tried_52, ↓e_X8_tried_59, ↓e_X8_tried_62, ↓e_X8_tried_70, ↓e_X8_tried_71, ↓e_X8_tried_79, ↓e_X8_tried_92, ↓e_X8_tried_106, ↓e_X8_tried_119, ↓e_X8_tried_132, ↓e_X8_tried_140, ↓e_X8_tried_141, ↓e_X8_tried_145, ↓e_X8_tried_155, e20, e10, x_isUpTo E (d + 2) (up_t a2 (by decide)), x_isUpTo E (d + 2) (up_f hg2), v8 o8_0, x_bad, zps_s, bI_0, zk_i, zk_r, zk_n, reduceCtorEq, ↓reduceIte]
    · simp only [↓c_X9_tried, ↓e_X9_tried_0, ↓e_X9_tried_9, ↓e_X9_tried_12, ↓e_X9_tried_21, ↓e_X9_tried_24, ↓e_X9_tried_33, ↓e_X9_tried_36, ↓e_X9_tried_46, ↓e_X9_tried_49, ↓e_X9_tried_59, ↓e_X9_tried_62, ↓e_X9_tried_66, ↓e_X9_tried_67, ↓e_X9_tried_76, ↓e_X9_tried_90, ↓e_X9_tried_105, ↓e_X9_tried_119, ↓e_X9_tried_132, ↓e_X9_tried_139, ↓e_X9_tried_142, ↓e_X9_tried_153, v9 o9_129, m_in, ha, hg, zps_s, bI_0, m_bad, zk_i, zk_r, zk_n, reduceCtorEq, ↓reduceIte]
  rcases inL_c (x := h) 0 10 m_d0 m_d10 (by decide) (by decide) with ⟨hh, h, -, h2, rfl⟩ | ⟨hh, hh2⟩
  rotate_left
  · refine op_ref hI 0 (-2) (fun K => ?_) (fun z1 K hr e => ?_)
    · simp only [↓c_X8_tried, ↓e_X8_tried_0, ↓e_X8_tried_6, ↓e_X8_tried_9, ↓e_X8_tried_15, ↓e_X8_tried_18, ↓e_X8_tried_24, ↓e_X8_tried_27, ↓e_X8_tried_31, ↓e_X8_tried_32, ↓e_X8_tried_39, ↓e_X8_tried_45, ↓e_X8_tried_52, ↓e_X8_tried_59, ↓e_X8_tried_62, ↓e_X8_tried_70, ↓e_X8_tried_71, ↓e_X8_tried_79, ↓e_X8_tried_92, ↓e_X8_tried_106, ↓e_X8_tried_119, ↓e_X8_tried_132, ↓e_X8_tried_140, ↓e_X8_tried_141, ↓e_X8_tried_145, ↓e_X8_tried_155, e20, e10, x_isUpTo E (d + 2) (up_t a2 (by decide)), x_isUpTo E (d + 2) (up_t g2 (by decide)), x_isUpTo E (d + 2) (up_f hh2), v8 o8_0, x_bad, zps_s, bI_0, zk_i, zk_r, zk_n, reduceCtorEq, ↓reduceIte]
    · simp only [↓c_X9_tried, ↓e_X9_tried_0, ↓e_X9_tried_9, ↓e_X9_tried_12, ↓e_X9_tried_21, ↓e_X9_tried_24, ↓e_X9_tried_33, ↓e_X9_tried_36, ↓e_X9_tried_46, ↓e_X9_tried_49, ↓e_X9_tried_59, ↓e_X9_tried_62, ↓e_X9_tried_66, ↓e_X9_tried_67, ↓e_X9_tried_76, ↓e_X9_tried_90, ↓e_X9_tried_105, ↓e_X9_tried_119, ↓e_X9_tried_132, ↓e_X9_tried_139, ↓e_X9_tried_142, ↓e_X9_tried_153, v9 o9_129, m_in, ha, hg, hh, zps_s, bI_0, m_bad, zk_i, zk_r, zk_n, reduceCtorEq, ↓reduceIte]
  rcases inL_c (x := n) 1 9 m_d1 m_d9 (by decide) (by decide) with ⟨hn, n, n1, n2, rfl⟩ | ⟨hn, hn2⟩
  rotate_left
  · refine op_ref hI 0 (-2) (fun K => ?_) (fun z1 K hr e => ?_)
    · by_cases q : n < 1
      · simp only [↓c_X8_tried, ↓e_X8_tried_0, ↓e_X8_tried_6, ↓e_X8_tried_9, ↓e_X8_tried_15, ↓e_X8_tried_18, ↓e_X8_tried_24, ↓e_X8_tried_27, ↓e_X8_tried_31, ↓e_X8_tried_32, ↓e_X8_tried_39, ↓e_X8_tried_45, ↓e_X8_tried_52, ↓e_X8_tried_59, ↓e_X8_tried_62, ↓e_X8_tried_70, ↓e_X8_tried_71, ↓e_X8_tried_79, ↓e_X8_tried_92, ↓e_X8_tried_106, ↓e_X8_tried_119, ↓e_X8_tried_132, ↓e_X8_tried_140, ↓e_X8_tried_141, ↓e_X8_tried_145, ↓e_X8_tried_155, e20, e10, q, i01, x_isUpTo E (d + 2) (up_t a2 (by decide)), x_isUpTo E (d + 2) (up_t g2 (by decide)), x_isUpTo E (d + 2) (up_t h2 (by decide)), v8 o8_0, x_bad, zps_s, bI_0, zk_i, zk_r, zk_n, reduceCtorEq, ↓reduceIte]
      · have q9 : (9 : Int32) < n := hn2.resolve_left q
        simp only [↓c_X8_tried, ↓e_X8_tried_0, ↓e_X8_tried_6, ↓e_X8_tried_9, ↓e_X8_tried_15, ↓e_X8_tried_18, ↓e_X8_tried_24, ↓e_X8_tried_27, ↓e_X8_tried_31, ↓e_X8_tried_32, ↓e_X8_tried_39, ↓e_X8_tried_45, ↓e_X8_tried_52, ↓e_X8_tried_59, ↓e_X8_tried_62, ↓e_X8_tried_70, ↓e_X8_tried_71, ↓e_X8_tried_79, ↓e_X8_tried_92, ↓e_X8_tried_106, ↓e_X8_tried_119, ↓e_X8_tried_132, ↓e_X8_tried_140, ↓e_X8_tried_141, ↓e_X8_tried_145, ↓e_X8_tried_155, e20, e10, q, q9, i01, x_isUpTo E (d + 2) (up_t a2 (by decide)), x_isUpTo E (d + 2) (up_t g2 (by decide)), x_isUpTo E (d + 2) (up_t h2 (by decide)), v8 o8_0, x_bad, zps_s, bI_0, zk_i, zk_r, zk_n, reduceCtorEq, ↓reduceIte]
    · simp only [↓c_X9_tried, ↓e_X9_tried_0, ↓e_X9_tried_9, ↓e_X9_tried_12, ↓e_X9_tried_21, ↓e_X9_tried_24, ↓e_X9_tried_33, ↓e_X9_tried_36, ↓e_X9_tried_46, ↓e_X9_tried_49, ↓e_X9_tried_59, ↓e_X9_tried_62, ↓e_X9_tried_66, ↓e_X9_tried_67, ↓e_X9_tried_76, ↓e_X9_tried_90, ↓e_X9_tried_105, ↓e_X9_tried_119, ↓e_X9_tried_132, ↓e_X9_tried_139, ↓e_X9_tried_142, ↓e_X9_tried_153, v9 o9_129, m_in, ha, hg, hh, hn, zps_s, bI_0, m_bad, zk_i, zk_r, zk_n, reduceCtorEq, ↓reduceIte]
  have q1 : (nI n < (1 : Int32)) = False := eq_false (nI_nlt (b := 1) (by omega) (by omega))
  have q9 : ((9 : Int32) < nI n) = False := eq_false (nI_nlt (a := 9) (by omega) (by decide))
  rcases inL_c (x := k) 0 n (l := 0) (h := (nI n).toInt64) m_d0 (by rw [Int32.toInt_toInt64, nI_toInt (by omega)]) (by omega) (by decide) with ⟨hk, k, -, k2, rfl⟩ | ⟨hk, hk2⟩
  rotate_left
  · refine op_ref hI 0 (-2) (fun K => ?_) (fun z1 K hr e => ?_)
    · simp only [↓c_X8_tried, ↓e_X8_tried_0, ↓e_X8_tried_6, ↓e_X8_tried_9, ↓e_X8_tried_15, ↓e_X8_tried_18, ↓e_X8_tried_24, ↓e_X8_tried_27, ↓e_X8_tried_31, ↓e_X8_tried_32, ↓e_X8_tried_39, ↓e_X8_tried_45, ↓e_X8_tried_52, ↓e_X8_tried_59, ↓e_X8_tried_62, ↓e_X8_tried_70, ↓e_X8_tried_71, ↓e_X8_tried_79, ↓e_X8_tried_92, ↓e_X8_tried_106, ↓e_X8_tried_119, ↓e_X8_tried_132, ↓e_X8_tried_140, ↓e_X8_tried_141, ↓e_X8_tried_145, ↓e_X8_tried_155, e20, e10, q1, q9, i01, x_isUpTo E (d + 2) (up_t a2 (by decide)), x_isUpTo E (d + 2) (up_t g2 (by decide)), x_isUpTo E (d + 2) (up_t h2 (by decide)), x_isUpTo E (d + 2) (up_f hk2), v8 o8_0, x_bad, zps_s, bI_0, zk_i, zk_r, zk_n, reduceCtorEq, ↓reduceIte]
    · simp only [↓c_X9_tried, ↓e_X9_tried_0, ↓e_X9_tried_9, ↓e_X9_tried_12, ↓e_X9_tried_21, ↓e_X9_tried_24, ↓e_X9_tried_33, ↓e_X9_tried_36, ↓e_X9_tried_46, ↓e_X9_tried_49, ↓e_X9_tried_59, ↓e_X9_tried_62, ↓e_X9_tried_66, ↓e_X9_tried_67, ↓e_X9_tried_76, ↓e_X9_tried_90, ↓e_X9_tried_105, ↓e_X9_tried_119, ↓e_X9_tried_132, ↓e_X9_tried_139, ↓e_X9_tried_142, ↓e_X9_tried_153, v9 o9_129, m_in, ha, hg, hh, hn, hk, zps_s, bI_0, m_bad, zk_i, zk_r, zk_n, reduceCtorEq, ↓reduceIte]
  have b1 := pw_bd g2 k2 n2
  have b2 := pw_bd h2 k2 n2
  have e9 : (10 : Nat) ^ 9 = 1000000000 := by decide
  obtain ⟨A, hA⟩ : ∃ A, A = a * (g ^ k * (10 - g) ^ (n - k)) := ⟨_, rfl⟩
  obtain ⟨B, hB⟩ : ∃ B, B = (20 - a) * (h ^ k * (10 - h) ^ (n - k)) := ⟨_, rfl⟩
  have A1 : A ≤ 20 * 1000000000 := by rw [hA, ← e9]; exact Nat.mul_le_mul a2 b1
  have B1 : B ≤ 20 * 1000000000 := by rw [hB, ← e9]; exact Nat.mul_le_mul (by omega) b2
  have s1 : nI 10 - nI g = nI (10 - g) := xI_sub g2
  have s2 : nI 10 - nI h = nI (10 - h) := xI_sub h2
  have s3 : nI n - nI k = nI (n - k) := xI_sub k2
  have s4 : nI 20 - nI a = nI (20 - a) := xI_sub a2
  have mA : lN a * lN (g ^ k) * lN ((10 - g) ^ (n - k)) = lN A := by rw [lN_mul, lN_mul, hA, Nat.mul_assoc]
  have mB : lN (20 - a) * lN (h ^ k) * lN ((10 - h) ^ (n - k)) = lN B := by rw [lN_mul, lN_mul, hB, Nat.mul_assoc]
  have pw := fun (v m : Nat) (hv : v < 2 ^ 31) (hm : m < 2 ^ 31) (hh : zH) (K : Option Value → zH → Prop) => (show Cl E (d + 2) 207 [.long (lN v), .int (nI m)] hh K = K (some (.long (lN (v ^ m)))) hh by rw [m_power E (d + 2) (lN v) hm, itr_pow])
  have ha' : inL (lN a) 0 20 = true := by rw [← nI_l (show a < 2 ^ 31 by omega)]; exact ha
  have hg' : inL (lN g) 0 10 = true := by rw [← nI_l (show g < 2 ^ 31 by omega)]; exact hg
  have hh' : inL (lN h) 0 10 = true := by rw [← nI_l (show h < 2 ^ 31 by omega)]; exact hh
  by_cases zz : A + B = 0
  · have zz' : (A + B = 0) = True := eq_true zz
    refine op_ref hI 1 (-3) (fun K => ?_) (fun z1 K hr e => ?_)
    · simp only [↓c_X8_tried, ↓e_X8_tried_0, ↓e_X8_tried_6, ↓e_X8_tried_9, ↓e_X8_tried_15, ↓e_X8_tried_18, ↓e_X8_tried_24, ↓e_X8_tried_27, ↓e_X8_tried_31, ↓e_X8_tried_32, ↓e_X8_tried_39, ↓e_X8_tried_45, ↓e_X8_tried_52, ↓e_X8_tried_59, ↓e_X8_tried_62, ↓e_X8_tried_70, ↓e_X8_tried_71, ↓e_X8_tried_79, ↓e_X8_tried_92, ↓e_X8_tried_106, ↓e_X8_tried_119, ↓e_X8_tried_132, ↓e_X8_tried_140, ↓e_X8_tried_141, ↓e_X8_tried_145, ↓e_X8_tried_155, e20, e10, q1, q9, i01, x_isUpTo E (d + 2) (up_t a2 (by decide)), x_isUpTo E (d + 2) (up_t g2 (by decide)), x_isUpTo E (d + 2) (up_t h2 (by decide)), x_isUpTo E (d + 2) (up_t k2 (show n < 2 ^ 31 by omega)), s1, s2, s3, s4, x_power E (d + 2) (show g < 2 ^ 31 by omega) (show k < 2 ^ 31 by omega), x_power E (d + 2) (show 10 - g < 2 ^ 31 by omega) (show n - k < 2 ^ 31 by omega), x_power E (d + 2) (show h < 2 ^ 31 by omega) (show k < 2 ^ 31 by omega), x_power E (d + 2) (show 10 - h < 2 ^ 31 by omega) (show n - k < 2 ^ 31 by omega), nI_l (show a < 2 ^ 31 by omega), nI_l (show 20 - a < 2 ^ 31 by omega), mA, mB, lN_add, cmp0 (show A + B < 2 ^ 63 by omega), zz', v8 o8_0, x_no, zps_s, bI_0, zk_i, zk_r, zk_l, zk_n, reduceCtorEq, ↓reduceIte]
    · simp only [↓c_X9_tried, ↓e_X9_tried_0, ↓e_X9_tried_9, ↓e_X9_tried_12, ↓e_X9_tried_21, ↓e_X9_tried_24, ↓e_X9_tried_33, ↓e_X9_tried_36, ↓e_X9_tried_46, ↓e_X9_tried_49, ↓e_X9_tried_59, ↓e_X9_tried_62, ↓e_X9_tried_66, ↓e_X9_tried_67, ↓e_X9_tried_76, ↓e_X9_tried_90, ↓e_X9_tried_105, ↓e_X9_tried_119, ↓e_X9_tried_132, ↓e_X9_tried_139, ↓e_X9_tried_142, ↓e_X9_tried_153, v9 o9_129, e10, e20, m_in, ha, hg, hh, ha', hg', hh', hn, hk, s1, s2, s3, s4, nI_l (show g < 2 ^ 31 by omega), nI_l (show h < 2 ^ 31 by omega), nI_l (show 10 - g < 2 ^ 31 by omega), nI_l (show 10 - h < 2 ^ 31 by omega), nI_l (show a < 2 ^ 31 by omega), nI_l (show 20 - a < 2 ^ 31 by omega), pw g k (by omega) (by omega), pw (10 - g) (n - k) (by omega) (by omega), pw h k (by omega) (by omega), pw (10 - h) (n - k) (by omega) (by omega), mA, mB, lN_add, cmp0 (show A + B < 2 ^ 63 by omega), zz', m_r1, zps_s, bI_0, zk_i, zk_r, zk_l, zk_n, reduceCtorEq, ↓reduceIte]
  · have be := f_become o2_22 E (d + 1) (a := A) (b := A + B) (by omega) (by omega) (by omega) z
    refine op_frc hI (a := A) (b := A + B) (z1 := (z.1, set2L (set2L z.2.1 22 0 (lN (A / Nat.gcd A (A + B)))) 22 1 (lN ((A + B) / Nat.gcd A (A + B))), z.2.2)) (z2 := (z.1, set2L (set2L (set2L (set2L z.2.1 22 0 (lN (A / Nat.gcd A (A + B)))) 22 1 (lN ((A + B) / Nat.gcd A (A + B)))) 129 17 (lN (A / Nat.gcd A (A + B)))) 129 18 (lN ((A + B) / Nat.gcd A (A + B))), z.2.2)) (by omega) (by omega) ?_ ?_ (fun K => ?_) (fun K => ?_) ?_ ?_ ?_ (fun _ _ => rfl)
    · dsimp only
      rw [set2L_n (Or.inr (by decide)), set2L_s]
    · dsimp only
      rw [set2L_s]
    · simp only [↓c_X8_tried, ↓e_X8_tried_0, ↓e_X8_tried_6, ↓e_X8_tried_9, ↓e_X8_tried_15, ↓e_X8_tried_18, ↓e_X8_tried_24, ↓e_X8_tried_27, ↓e_X8_tried_31, ↓e_X8_tried_32, ↓e_X8_tried_39, ↓e_X8_tried_45, ↓e_X8_tried_52, ↓e_X8_tried_59, ↓e_X8_tried_62, ↓e_X8_tried_70, ↓e_X8_tried_71, ↓e_X8_tried_79, ↓e_X8_tried_92, ↓e_X8_tried_106, ↓e_X8_tried_119, ↓e_X8_tried_132, ↓e_X8_tried_140, ↓e_X8_tried_141, ↓e_X8_tried_145, ↓e_X8_tried_155, e20, e10, q1, q9, i01, x_isUpTo E (d + 2) (up_t a2 (by decide)), x_isUpTo E (d + 2) (up_t g2 (by decide)), x_isUpTo E (d + 2) (up_t h2 (by decide)), x_isUpTo E (d + 2) (up_t k2 (show n < 2 ^ 31 by omega)), s1, s2, s3, s4, x_power E (d + 2) (show g < 2 ^ 31 by omega) (show k < 2 ^ 31 by omega), x_power E (d + 2) (show 10 - g < 2 ^ 31 by omega) (show n - k < 2 ^ 31 by omega), x_power E (d + 2) (show h < 2 ^ 31 by omega) (show k < 2 ^ 31 by omega), x_power E (d + 2) (show 10 - h < 2 ^ 31 by omega) (show n - k < 2 ^ 31 by omega), nI_l (show a < 2 ^ 31 by omega), nI_l (show 20 - a < 2 ^ 31 by omega), mA, mB, lN_add, cmp0 (show A + B < 2 ^ 63 by omega), zz, g8 o8_0, v2 o2_22, Nat.reduceAdd, be, zps_s, zps_n, bI_0, zk_i, zk_r, zk_l, zk_n, reduceCtorEq, ↓reduceIte]
    · have te := fun z1 => m_tell E (d + 2) (a := A) (b := A + B) (by omega) (by omega) (by omega) z1
      simp only [↓c_X9_tried, ↓e_X9_tried_0, ↓e_X9_tried_9, ↓e_X9_tried_12, ↓e_X9_tried_21, ↓e_X9_tried_24, ↓e_X9_tried_33, ↓e_X9_tried_36, ↓e_X9_tried_46, ↓e_X9_tried_49, ↓e_X9_tried_59, ↓e_X9_tried_62, ↓e_X9_tried_66, ↓e_X9_tried_67, ↓e_X9_tried_76, ↓e_X9_tried_90, ↓e_X9_tried_105, ↓e_X9_tried_119, ↓e_X9_tried_132, ↓e_X9_tried_139, ↓e_X9_tried_142, ↓e_X9_tried_153, v9 o9_129, e10, e20, m_in, ha, hg, hh, ha', hg', hh', hn, hk, s1, s2, s3, s4, nI_l (show g < 2 ^ 31 by omega), nI_l (show h < 2 ^ 31 by omega), nI_l (show 10 - g < 2 ^ 31 by omega), nI_l (show 10 - h < 2 ^ 31 by omega), nI_l (show a < 2 ^ 31 by omega), nI_l (show 20 - a < 2 ^ 31 by omega), pw g k (by omega) (by omega), pw (10 - g) (n - k) (by omega) (by omega), pw h k (by omega) (by omega), pw (10 - h) (n - k) (by omega) (by omega), mA, mB, lN_add, cmp0 (show A + B < 2 ^ 63 by omega), zz, te, zps_s, bI_0, zk_i, zk_r, zk_l, zk_n, reduceCtorEq, ↓reduceIte]
    · dsimp only
      rw [set2L_a (by decide), set2L_a (by decide)]
    · dsimp only
      rw [set2L_n (Or.inr (by decide)), set2L_s]
    · dsimp only
      rw [set2L_s]
/-! bytes of a long -/
theorem s64 : ∀ n, n < 64 → (((nI n).toInt64 &&& 63).toBitVec.smod 64).toNat = n := by decide +kernel
theorem u64 : ∀ n, n < 64 → (((nI n).toInt64.toUInt64 &&& Int64.toUInt64 63).toBitVec % 64).toNat = n := by decide +kernel
theorem n255 (n : Nat) : nI n &&& 255 = nI (n % 256) := by
  apply Int32.toBitVec_inj.mp
  rw [Int32.toBitVec_and]
  show BitVec.ofNat 32 n &&& BitVec.ofNat 32 255 = BitVec.ofNat 32 (n % 256)
  apply BitVec.eq_of_getLsbD_eq
  intro i hi
  rw [BitVec.getLsbD_and, BitVec.getLsbD_ofNat, BitVec.getLsbD_ofNat, BitVec.getLsbD_ofNat, show (256 : Nat) = 2 ^ 8 from rfl, show (255 : Nat) = 2 ^ 8 - 1 from rfl, Nat.testBit_mod_two_pow, Nat.testBit_two_pow_sub_one]
  cases n.testBit i <;> simp
theorem l_tn (x : Int64) : x = lN x.toBitVec.toNat := Int64.toBitVec_inj.mp (by show _ = BitVec.ofNat 64 _; simp)
/-- a byte of a long, on both sides -/
def byN (v : Int64) (k : Nat) : Nat := v.toBitVec.toNat / 2 ^ (8 * k) % 256
theorem by_x (v : Int64) {k : Nat} (hk : k < 8) : (Int64.toInt32 (Int64.toUInt64 v >>> ((Int32.toInt64 (8 * nI k)).toUInt64 &&& Int64.toUInt64 63)).toInt64) &&& 255 = nI (byN v k) := by
  have e8 : (8 : Int32) * nI k = nI (8 * k) := nI_mul 8 k
  have hv : v.toBitVec.toNat < 2 ^ 64 := v.toBitVec.isLt
  unfold byN
  rw [e8]
  conv => lhs; rw [l_tn v]
  have hu : ((Int32.toInt64 (nI (8 * k))).toUInt64 &&& Int64.toUInt64 63).toNat = 8 * k := (by decide +kernel : ∀ k, k < 8 → ((Int32.toInt64 (nI (8 * k))).toUInt64 &&& Int64.toUInt64 63).toNat = 8 * k) k hk
  rw [lN_shr hv _ hu (by omega), lN_i, n255]
theorem by_m (v : Int64) {k : Nat} (hk : k < 8) : Int64.toInt32 ((v >>> (Int32.toInt64 (8 * nI k) &&& 63)) &&& 255) = nI (byN v k) := by
  have e8 : (8 : Int32) * nI k = nI (8 * k) := nI_mul 8 k
  have key : (v >>> (Int32.toInt64 (nI (8 * k)) &&& 63)) &&& 255 = lN (byN v k) := by
    apply Int64.toBitVec_inj.mp
    rw [Int64.toBitVec_and, Int64.toBitVec_shiftRight]
    show v.toBitVec.sshiftRight ((Int32.toInt64 (nI (8 * k)) &&& 63).toBitVec.smod 64).toNat &&& BitVec.ofNat 64 255 = BitVec.ofNat 64 (byN v k)
    rw [s64 (8 * k) (by omega)]
    apply BitVec.eq_of_getLsbD_eq
    intro i hi
    unfold byN
    rw [BitVec.getLsbD_and, BitVec.getLsbD_sshiftRight, BitVec.getLsbD_ofNat, BitVec.getLsbD_ofNat, show (256 : Nat) = 2 ^ 8 from rfl, show (255 : Nat) = 2 ^ 8 - 1 from rfl, Nat.testBit_mod_two_pow, Nat.testBit_two_pow_sub_one, Nat.testBit_div_two_pow]
    by_cases q : i < 8
    · have h1 : 8 * k + i < 64 := by omega
      simp only [q, hi, h1, decide_true, Bool.true_and, Bool.and_true, ↓reduceIte]
      simp only [show ¬ 64 ≤ i by omega, decide_false, Bool.not_false, Bool.true_and, Nat.add_comm i (8 * k)]
      rfl
    · simp [q]
  rw [e8, key, lN_i]
theorem byN_lt (v : Int64) (k : Nat) : byN v k < 256 := Nat.mod_lt _ (by decide)
