/-! class Fraction: become, limbs, mix -/
theorem f_become {o : Nat} (ho : isO2 o) (E : zE) (d : Nat) {a b : Nat} (ha : a < 2 ^ 40) (hb : b < 2 ^ 40) (hb0 : 0 < b) (z : zS) (K : Option Value → zH → Prop) : Cl E (d + 1) 22 [.ref o, .long (lN a), .long (lN b)] (HP z) K = K none (HP (z.1, set2L (set2L z.2.1 o 0 (lN (a / Nat.gcd a b))) o 1 (lN (b / Nat.gcd a b)), z.2.2)) := by
  have hg : 0 < Nat.gcd a b := Nat.gcd_pos_of_pos_right a hb0
  have hg' : Nat.gcd a b < 2 ^ 63 := by
    have := Nat.gcd_le_right a hb0
    omega
  simp only [↓c_X2_become, ↓e_X2_become_0, ↓e_X2_become_5, ↓e_X2_become_14, ↓e_X2_become_19, ↓e_X2_become_22, ↓e_X2_become_27, ↓e_X2_become_30, f_common E d ha hb, p2 ho, zps_s, zk_l, zk_n, zk_r, lN_pos hg', lN_eq0 hg', hg, show ¬ Nat.gcd a b = 0 from by omega, not_false_eq_true, true_and, ↓reduceIte, lN_div (show a < 2 ^ 63 by omega) hg', lN_div (show b < 2 ^ 63 by omega) hg']
theorem f_side {o : Nat} (ho : isO2 o) (E : zE) (d : Nat) (w : Int32) (z : zS) (K : Option Value → zH → Prop) : Cl E d 26 [.ref o, .int w] (HP z) K = K (some (.long (if w = 0 then z.2.1 o 0 else z.2.1 o 1))) (HP z) := by
  simp only [↓c_X2_side, ↓e_X2_side_0, ↓e_X2_side_4, ↓e_X2_side_8, ↓e_X2_side_11, ↓e_X2_side_15, g2 ho, zk_r, zk_i]
  split <;> rfl
theorem lN_u {n : Nat} (h : n < 2 ^ 64) : (lN n).toUInt64.toNat = n := by
  show (BitVec.ofNat 64 n).toNat = n
  rw [BitVec.toNat_ofNat]
  exact Nat.mod_eq_of_lt h
theorem of_u (x : UInt64) : x.toInt64 = lN x.toNat := by
  apply Int64.toBitVec_inj.mp
  show x.toBitVec = BitVec.ofNat 64 x.toNat
  apply BitVec.eq_of_toNat_eq
  rw [BitVec.toNat_ofNat]
  exact (Nat.mod_eq_of_lt x.toNat_lt).symm
theorem lN_shr {n k : Nat} (h : n < 2 ^ 64) (u : UInt64) (hu : u.toNat = k) (hk : k < 64) : ((lN n).toUInt64 >>> u).toInt64 = lN (n / 2 ^ k) := by
  rw [of_u, UInt64.toNat_shiftRight, lN_u h, hu, Nat.mod_eq_of_lt hk, Nat.shiftRight_eq_div_pow]
theorem lN_c0 {a : Nat} (ha : a < 2 ^ 63) : ((lg_cmp (lN a) 0 : Int32) = 0) = (a = 0) := by
  rw [← lN_eq0 ha]
  exact propext (lg_cmp_eq _ _)
def lbN (v : Nat) : Nat := if v = 0 then 0 else if v < 2 ^ 30 then 1 else 2
theorem lbN_le (v : Nat) : lbN v ≤ 2 := by unfold lbN; split <;> (try split) <;> omega
theorem f_limbs {o : Nat} (ho : isO2 o) (E : zE) (d : Nat) (w : Int32) {v : Nat} (hv : v < 2 ^ 40) {z : zS} (hz : (if w = 0 then z.2.1 o 0 else z.2.1 o 1) = lN v) (K : Option Value → zH → Prop) : Cl E (d + 1) 23 [.ref o, .int w] (HP z) K = K (some (.int (nI (lbN v)))) (HP z) := by
  have s0 : (Int64.toUInt64 (lN v) >>> ((Int32.toInt64 (30 * 0)).toUInt64 &&& Int64.toUInt64 63)).toInt64 = lN (v / 2 ^ 0) := lN_shr (by omega) _ (by decide) (by decide)
  have s1 : (Int64.toUInt64 (lN v) >>> ((Int32.toInt64 (30 * (0 + 1))).toUInt64 &&& Int64.toUInt64 63)).toInt64 = lN (v / 2 ^ 30) := lN_shr (by omega) _ (by decide) (by decide)
  have s2 : (Int64.toUInt64 (lN v) >>> ((Int32.toInt64 (30 * (0 + 1 + 1))).toUInt64 &&& Int64.toUInt64 63)).toInt64 = lN (v / 2 ^ 60) := lN_shr (by omega) _ (by decide) (by decide)
  rw [Nat.pow_zero, Nat.div_one] at s0
  rw [Nat.div_eq_of_lt (show v < 2 ^ 60 by omega)] at s2
  have q0 : ((0 : Int32) < 3) = True := eq_true (by decide)
  have q1 : ((0 : Int32) + 1 < 3) = True := eq_true (by decide)
  have q2 : ((0 : Int32) + 1 + 1 < 3) = True := eq_true (by decide)
  simp only [↓c_X2_limbs, ↓e_X2_limbs_0, ↓e_X2_limbs_9, ↓e_X2_limbs_14, ↓e_X2_limbs_24, ↓e_X2_limbs_33, zk_r, zk_i, zk_n]
  rw [e_X2_limbs_4]
  simp only [↓e_X2_limbs_9, ↓e_X2_limbs_14, ↓e_X2_limbs_24, ↓e_X2_limbs_33, v2 ho, f_side ho, hz, zps_s, zk_l, zk_r, zk_i, zk_n, q0, s0, lN_c0 (show v < 2 ^ 63 by omega), ↓reduceIte]
  unfold lbN
  by_cases h0 : v = 0
  · simp only [h0, ↓reduceIte, nI_0]
  · simp only [h0, ↓reduceIte]
    rw [e_X2_limbs_4]
    simp only [↓e_X2_limbs_9, ↓e_X2_limbs_14, ↓e_X2_limbs_24, ↓e_X2_limbs_33, v2 ho, f_side ho, hz, zps_s, zk_l, zk_r, zk_i, zk_n, q1, s1, lN_c0 (show v / 2 ^ 30 < 2 ^ 63 by omega), ↓reduceIte]
    by_cases h1 : v < 2 ^ 30
    · have e : v / 2 ^ 30 = 0 := Nat.div_eq_of_lt h1
      simp only [e, h1, ↓reduceIte]
      rfl
    · have e : ¬ v / 2 ^ 30 = 0 := by
        have := Nat.div_pos (show 2 ^ 30 ≤ v by omega) (by decide)
        omega
      simp only [e, h1, ↓reduceIte]
      rw [e_X2_limbs_4]
      simp only [↓e_X2_limbs_9, ↓e_X2_limbs_14, ↓e_X2_limbs_24, ↓e_X2_limbs_33, v2 ho, f_side ho, hz, zps_s, zk_l, zk_r, zk_i, zk_n, q2, s2, lN_c0 (show 0 < 2 ^ 63 by decide), ↓reduceIte]
      rfl
theorem nI_low {n : Nat} : nI n &&& 1073741823 = nI (n % 2 ^ 30) := by
  apply Int32.toBitVec_inj.mp
  show BitVec.ofNat 32 n &&& BitVec.ofNat 32 (2 ^ 30 - 1) = BitVec.ofNat 32 (n % 2 ^ 30)
  apply BitVec.eq_of_toNat_eq
  rw [BitVec.toNat_and, BitVec.toNat_ofNat, BitVec.toNat_ofNat, BitVec.toNat_ofNat, Nat.mod_eq_of_lt (show 2 ^ 30 - 1 < 2 ^ 32 by decide), Nat.and_two_pow_sub_one_eq_mod]
  omega
theorem f_limbAt {o : Nat} (ho : isO2 o) (E : zE) (d : Nat) (w : Int32) {v i : Nat} (hi : i < 2) (hv : v < 2 ^ 40) {z : zS} (hz : (if w = 0 then z.2.1 o 0 else z.2.1 o 1) = lN v) (K : Option Value → zH → Prop) : Cl E (d + 1) 24 [.ref o, .int w, .int (nI i)] (HP z) K = K (some (.int (nI (v / 2 ^ (30 * i) % 2 ^ 30)))) (HP z) := by
  have h2 : (nI i < (3 : Int32)) = True := by
    rcases (show i = 0 ∨ i = 1 by omega) with e | e <;> subst e <;> decide
  have hs : (Int64.toUInt64 (lN v) >>> ((Int32.toInt64 (30 * nI i)).toUInt64 &&& Int64.toUInt64 63)).toInt64 = lN (v / 2 ^ (30 * i)) := by
    rcases (show i = 0 ∨ i = 1 by omega) with e | e <;> subst e
    · exact lN_shr (by omega) _ (by decide) (by decide)
    · exact lN_shr (by omega) _ (by decide) (by decide)
  simp only [↓c_X2_limbAt, ↓e_X2_limbAt_0, ↓e_X2_limbAt_4, ↓e_X2_limbAt_9, ↓e_X2_limbAt_11, ↓e_X2_limbAt_16, v2 ho, f_side ho, hz, zps_s, zk_r, zk_i, zk_n, nI_neg (show i < 2 ^ 31 by omega), h2, ↓reduceIte, hs, lN_i, nI_low]
def lmF (v i : Nat) (h : Int64) : Int64 := m31 h (nI (v / 2 ^ (30 * i) % 2 ^ 30))
def fmZ (a b : Nat) (h : Int64) : Int64 := itr (lmF b) (lbN b) (itr (lmF a) (lbN a) (m31 (m31 (m31 h (if 0 < a then 1 else 0)) (nI (lbN a))) (nI (lbN b))))
theorem f_inner {o : Nat} (ho : isO2 o) (E : zE) (d : Nat) (w : Int32) {v : Nat} (hv : v < 2 ^ 40) {z : zS} (hz : (if w = 0 then z.2.1 o 0 else z.2.1 o 1) = lN v) (h0 h : Int64) (K : Option Value → zH → Prop) : Ev E (d + 2) zm_X2_mix 60 [some (.ref o), some (.long h0), none, some (.long h), none, some (.int w), some (.int 0)] [] (HP z) K = Ev E (d + 2) zm_X2_mix 51 [some (.ref o), some (.long h0), none, some (.long (itr (lmF v) (lbN v) h)), none, some (.int (w + 1)), some (.int (nI (lbN v)))] [] (HP z) K := by
  have hb := lbN_le v
  have loop := itr_eq (fun i b => Ev E (d + 2) zm_X2_mix 60 [some (.ref o), some (.long h0), none, some (.long b), none, some (.int w), some (.int (nI i))] [] (HP z) K) (lmF v) h (lbN v) (fun i hi => by
    generalize itr _ i _ = b
    rw [e_X2_mix_60]
    simp only [↓e_X2_mix_9, ↓e_X2_mix_14, ↓e_X2_mix_18, ↓e_X2_mix_19, ↓e_X2_mix_32, ↓e_X2_mix_45, ↓e_X2_mix_57, ↓e_X2_mix_68, ↓e_X2_mix_71, ↓e_X2_mix_84, ↓e_X2_mix_93, ↓e_X2_mix_99, v2 ho, f_limbs ho E d w hv hz, f_limbAt ho E d w (show i < 2 by omega) hv hz, zps_s, zk_l, zk_r, zk_i, zk_n, nI_lt_iff (show i < 2 ^ 31 by omega) (show lbN v < 2 ^ 31 by omega), hi, ↓reduceIte, nI_1]
    rfl)
  rw [nI_0] at loop
  rw [loop, e_X2_mix_60]
  simp only [↓e_X2_mix_9, ↓e_X2_mix_14, ↓e_X2_mix_18, ↓e_X2_mix_19, ↓e_X2_mix_32, ↓e_X2_mix_45, ↓e_X2_mix_57, ↓e_X2_mix_68, ↓e_X2_mix_71, ↓e_X2_mix_84, ↓e_X2_mix_93, ↓e_X2_mix_99, v2 ho, f_limbs ho E d w hv hz, zps_s, zk_l, zk_r, zk_i, zk_n, nI_lt_iff (show lbN v < 2 ^ 31 by omega) (show lbN v < 2 ^ 31 by omega), Nat.lt_irrefl, ↓reduceIte]
theorem f_mix {o : Nat} (ho : isO2 o) (E : zE) (d : Nat) {a b : Nat} (ha : a < 2 ^ 40) (hb : b < 2 ^ 40) {z : zS} (hza : z.2.1 o 0 = lN a) (hzb : z.2.1 o 1 = lN b) (h0 : Int64) (K : Option Value → zH → Prop) : Cl E (d + 2) 25 [.ref o, .long h0] (HP z) K = K (some (.long (fmZ a b h0))) (HP z) := by
  have h1 : (if (0 : Int32) = 0 then z.2.1 o 0 else z.2.1 o 1) = lN a := hza
  have h2 : (if (1 : Int32) = 0 then z.2.1 o 0 else z.2.1 o 1) = lN b := hzb
  have l0 := f_limbs ho E d 0 ha h1
  have l1 := f_limbs ho E d 1 hb h2
  have fin : ∀ h : Int64, Ev E (d + 2) zm_X2_mix 51 [some (.ref o), some (.long h0), none, some (.long h), none, some (.int 0), none] [] (HP z) K = K (some (.long (itr (lmF b) (lbN b) (itr (lmF a) (lbN a) h)))) (HP z) := fun h => by
    rw [e_X2_mix_51]
    simp only [↓e_X2_mix_9, ↓e_X2_mix_14, ↓e_X2_mix_18, ↓e_X2_mix_19, ↓e_X2_mix_32, ↓e_X2_mix_45, ↓e_X2_mix_57, ↓e_X2_mix_68, ↓e_X2_mix_71, ↓e_X2_mix_84, ↓e_X2_mix_93, ↓e_X2_mix_99, Int32.reduceLT, ↓reduceIte, zk_l, zk_r, zk_i, zk_n]
    rw [f_inner ho E d 0 ha h1, e_X2_mix_51]
    simp only [↓e_X2_mix_9, ↓e_X2_mix_14, ↓e_X2_mix_18, ↓e_X2_mix_19, ↓e_X2_mix_32, ↓e_X2_mix_45, ↓e_X2_mix_57, ↓e_X2_mix_68, ↓e_X2_mix_71, ↓e_X2_mix_84, ↓e_X2_mix_93, ↓e_X2_mix_99, Int32.reduceAdd, Int32.reduceLT, ↓reduceIte, zk_l, zk_r, zk_i, zk_n]
    rw [f_inner ho E d 1 hb h2, e_X2_mix_51]
    simp only [↓e_X2_mix_9, ↓e_X2_mix_14, ↓e_X2_mix_18, ↓e_X2_mix_19, ↓e_X2_mix_32, ↓e_X2_mix_45, ↓e_X2_mix_57, ↓e_X2_mix_68, ↓e_X2_mix_71, ↓e_X2_mix_84, ↓e_X2_mix_93, ↓e_X2_mix_99, Int32.reduceAdd, Int32.reduceLT, ↓reduceIte, zk_l, zk_r, zk_i, zk_n]
  simp only [↓c_X2_mix, ↓e_X2_mix_0, ↓e_X2_mix_9, ↓e_X2_mix_14, ↓e_X2_mix_18, ↓e_X2_mix_19, ↓e_X2_mix_32, ↓e_X2_mix_45, ↓e_X2_mix_57, ↓e_X2_mix_68, ↓e_X2_mix_71, ↓e_X2_mix_84, ↓e_X2_mix_93, ↓e_X2_mix_99, g2 ho, v2 ho, hza, lN_pos (show a < 2 ^ 63 by omega), l0, l1, zps_s, zk_l, zk_r, zk_i, zk_n, fin]
  by_cases h : 0 < a <;> simp only [h, ↓reduceIte, fmZ, m31]
