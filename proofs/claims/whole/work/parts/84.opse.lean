/-! limb, leans, tried: THE FRACTION -/
theorem op_limb (E : zE) (d : Nat) {z : zS} (hI : Inv z) (w i : Int32) : OpI E (d + 3) 113 217 [.int w, .int i] z := by
  obtain ⟨a, b, ha, hb, f0, f1, f2, f3⟩ := frc_of hI
  rcases inL_c (x := w) 0 1 m_d0 m_d1 (by decide) (by decide) with ⟨hv, j, -, hj, rfl⟩ | ⟨hv, hv2⟩
  · have w0 : ((1 : Int32) < nI j) = False := eq_false (nI_nlt (b := j) (a := 1) (by omega) (by decide))
    have w1i : nI j = 0 ↔ j = 0 := nI_eq (b := 0) (by omega) (by decide)
    have w1 : (nI j = 0) = (j = 0) := propext w1i
    by_cases hi : i < 0
    · refine op_ref hI 0 (-2) (fun K => ?_) (fun z1 K hr e => ?_)
      · simp only [↓c_X8_limb, ↓e_X8_limb_0, ↓e_X8_limb_4, ↓e_X8_limb_9, ↓e_X8_limb_13, ↓e_X8_limb_21, ↓e_X8_limb_22, ↓e_X8_limb_27, ↓e_X8_limb_31, ↓e_X8_limb_34, ↓e_X8_limb_38, ↓e_X8_limb_43, ↓e_X8_limb_46, ↓e_X8_limb_47, nI_neg (show j < 2 ^ 31 by omega), w0, hi, v8 o8_0, Nat.reduceAdd, x_bad, zps_s, zk_i, zk_r, zk_n, ↓reduceIte]
      · simp only [↓c_X9_limb, ↓e_X9_limb_0, ↓e_X9_limb_7, ↓e_X9_limb_10, ↓e_X9_limb_14, ↓e_X9_limb_18, ↓e_X9_limb_19, ↓e_X9_limb_23, ↓e_X9_limb_27, ↓e_X9_limb_30, ↓e_X9_limb_34, ↓e_X9_limb_40, ↓e_X9_limb_43, ↓e_X9_limb_48, ↓e_X9_limb_51, ↓e_X9_limb_52, v9 o9_129, m_in, hv, hi, zps_s, bI_0, m_bad, zk_i, zk_r, zk_n, reduceCtorEq, ↓reduceIte]
    · obtain ⟨k, hk, rfl⟩ := nI_of hi
      have hvv : ∃ v, v < 2 ^ 40 ∧ (if nI j = 0 then z.2.1 22 0 else z.2.1 22 1) = lN v ∧ (if j = 0 then z.2.1 129 17 else z.2.1 129 18) = lN v := by
        by_cases q : j = 0
        · exact ⟨a, ha, by rw [if_pos (w1i.mpr q)]; exact f0, by rw [if_pos q]; exact f2⟩
        · exact ⟨b, hb, by rw [if_neg (fun e => q (w1i.mp e))]; exact f1, by rw [if_neg q]; exact f3⟩
      obtain ⟨v, hv40, e1, e2⟩ := hvv
      have hl := lbN_le v
      have hlt : (nI k < nI (lbN v)) = (k < lbN v) := nI_lt_iff hk (by omega)
      refine ⟨if k < lbN v then nI (v / 2 ^ (30 * k) % 2 ^ 30) else -1, z, z, fun K => ?_, fun K => ?_, hI⟩
      · have l0 := f_limbs o2_22 E (d + 1) (nI j) hv40 (z := z) e1
        by_cases q : k < lbN v
        · have l1 := f_limbAt o2_22 E (d + 1) (nI j) (i := k) (by omega) hv40 (z := z) e1
          simp only [↓c_X8_limb, ↓e_X8_limb_0, ↓e_X8_limb_4, ↓e_X8_limb_9, ↓e_X8_limb_13, ↓e_X8_limb_21, ↓e_X8_limb_22, ↓e_X8_limb_27, ↓e_X8_limb_31, ↓e_X8_limb_34, ↓e_X8_limb_38, ↓e_X8_limb_43, ↓e_X8_limb_46, ↓e_X8_limb_47, nI_neg (show j < 2 ^ 31 by omega), nI_neg hk, w0, g8 o8_0, v2 o2_22, Nat.reduceAdd, l0, l1, hlt, q, zps_s, zk_i, zk_r, zk_n, ↓reduceIte]
        · simp only [↓c_X8_limb, ↓e_X8_limb_0, ↓e_X8_limb_4, ↓e_X8_limb_9, ↓e_X8_limb_13, ↓e_X8_limb_21, ↓e_X8_limb_22, ↓e_X8_limb_27, ↓e_X8_limb_31, ↓e_X8_limb_34, ↓e_X8_limb_38, ↓e_X8_limb_43, ↓e_X8_limb_46, ↓e_X8_limb_47, nI_neg (show j < 2 ^ 31 by omega), nI_neg hk, w0, g8 o8_0, v2 o2_22, Nat.reduceAdd, l0, hlt, q, zps_s, zk_i, zk_r, zk_n, ↓reduceIte]
      · have l0 := fun h K => m_limbs E (d + 2) hv40 h K
        by_cases q : k < lbN v
        · have l1 := fun h K => m_limbOf E (d + 2) (i := k) (by omega) hv40 h K
          by_cases qj : j = 0
          · rw [if_pos qj] at e2
            replace qj : (j = 0) = True := eq_true qj
            simp only [↓c_X9_limb, ↓e_X9_limb_0, ↓e_X9_limb_7, ↓e_X9_limb_10, ↓e_X9_limb_14, ↓e_X9_limb_18, ↓e_X9_limb_19, ↓e_X9_limb_23, ↓e_X9_limb_27, ↓e_X9_limb_30, ↓e_X9_limb_34, ↓e_X9_limb_40, ↓e_X9_limb_43, ↓e_X9_limb_48, ↓e_X9_limb_51, ↓e_X9_limb_52, v9 o9_129, g9 o9_129, Nat.reduceAdd, m_in, hv, nI_neg hk, w1, qj, e2, l0, l1, hlt, q, zps_s, bI_0, zk_i, zk_r, zk_l, zk_n, reduceCtorEq, ↓reduceIte]
          · rw [if_neg qj] at e2
            simp only [↓c_X9_limb, ↓e_X9_limb_0, ↓e_X9_limb_7, ↓e_X9_limb_10, ↓e_X9_limb_14, ↓e_X9_limb_18, ↓e_X9_limb_19, ↓e_X9_limb_23, ↓e_X9_limb_27, ↓e_X9_limb_30, ↓e_X9_limb_34, ↓e_X9_limb_40, ↓e_X9_limb_43, ↓e_X9_limb_48, ↓e_X9_limb_51, ↓e_X9_limb_52, v9 o9_129, g9 o9_129, Nat.reduceAdd, m_in, hv, nI_neg hk, w1, qj, e2, l0, l1, hlt, q, zps_s, bI_0, zk_i, zk_r, zk_l, zk_n, reduceCtorEq, ↓reduceIte]
        · by_cases qj : j = 0
          · rw [if_pos qj] at e2
            replace qj : (j = 0) = True := eq_true qj
            simp only [↓c_X9_limb, ↓e_X9_limb_0, ↓e_X9_limb_7, ↓e_X9_limb_10, ↓e_X9_limb_14, ↓e_X9_limb_18, ↓e_X9_limb_19, ↓e_X9_limb_23, ↓e_X9_limb_27, ↓e_X9_limb_30, ↓e_X9_limb_34, ↓e_X9_limb_40, ↓e_X9_limb_43, ↓e_X9_limb_48, ↓e_X9_limb_51, ↓e_X9_limb_52, v9 o9_129, g9 o9_129, Nat.reduceAdd, m_in, hv, nI_neg hk, w1, qj, e2, l0, hlt, q, zps_s, bI_0, zk_i, zk_r, zk_l, zk_n, reduceCtorEq, ↓reduceIte]
          · rw [if_neg qj] at e2
            simp only [↓c_X9_limb, ↓e_X9_limb_0, ↓e_X9_limb_7, ↓e_X9_limb_10, ↓e_X9_limb_14, ↓e_X9_limb_18, ↓e_X9_limb_19, ↓e_X9_limb_23, ↓e_X9_limb_27, ↓e_X9_limb_30, ↓e_X9_limb_34, ↓e_X9_limb_40, ↓e_X9_limb_43, ↓e_X9_limb_48, ↓e_X9_limb_51, ↓e_X9_limb_52, v9 o9_129, g9 o9_129, Nat.reduceAdd, m_in, hv, nI_neg hk, w1, qj, e2, l0, hlt, q, zps_s, bI_0, zk_i, zk_r, zk_l, zk_n, reduceCtorEq, ↓reduceIte]
  · refine op_ref hI 0 (-2) (fun K => ?_) (fun z1 K hr e => ?_)
    · by_cases q : w < 0
      · simp only [↓c_X8_limb, ↓e_X8_limb_0, ↓e_X8_limb_4, ↓e_X8_limb_9, ↓e_X8_limb_13, ↓e_X8_limb_21, ↓e_X8_limb_22, ↓e_X8_limb_27, ↓e_X8_limb_31, ↓e_X8_limb_34, ↓e_X8_limb_38, ↓e_X8_limb_43, ↓e_X8_limb_46, ↓e_X8_limb_47, q, v8 o8_0, Nat.reduceAdd, x_bad, zps_s, zk_i, zk_r, zk_n, ↓reduceIte]
      · have q1 : (1 : Int32) < w := hv2.resolve_left q
        simp only [↓c_X8_limb, ↓e_X8_limb_0, ↓e_X8_limb_4, ↓e_X8_limb_9, ↓e_X8_limb_13, ↓e_X8_limb_21, ↓e_X8_limb_22, ↓e_X8_limb_27, ↓e_X8_limb_31, ↓e_X8_limb_34, ↓e_X8_limb_38, ↓e_X8_limb_43, ↓e_X8_limb_46, ↓e_X8_limb_47, q, q1, v8 o8_0, Nat.reduceAdd, x_bad, zps_s, zk_i, zk_r, zk_n, ↓reduceIte]
    · simp only [↓c_X9_limb, ↓e_X9_limb_0, ↓e_X9_limb_7, ↓e_X9_limb_10, ↓e_X9_limb_14, ↓e_X9_limb_18, ↓e_X9_limb_19, ↓e_X9_limb_23, ↓e_X9_limb_27, ↓e_X9_limb_30, ↓e_X9_limb_34, ↓e_X9_limb_40, ↓e_X9_limb_43, ↓e_X9_limb_48, ↓e_X9_limb_51, ↓e_X9_limb_52, v9 o9_129, m_in, hv, zps_s, bI_0, m_bad, zk_i, zk_r, zk_n, ↓reduceIte]
theorem Inv_frc {z z' : zS} (h1 : ∀ r, r < 24 ∨ (90 < r ∧ r < 129) ∨ (129 < r ∧ r < 133) → z'.1 r = z.1 r) {a b : Nat} (hF : Frc z' a b) (hI : Inv z) : Inv z' := by
  have h := Inv_keep (z := z) (z' := (z'.1, z.2)) h1 rfl rfl rfl hI
  exact ⟨h.1, h.2.1, h.2.2.1, h.2.2.2.1, a, b, hF⟩
/-- both tell a fraction -/
theorem op_frc {E : zE} {d i j : Nat} {as : List Value} {z z1 z2 : zS} (hI : Inv z) {a b : Nat} (ha : a < 2 ^ 40) (hb : b < 2 ^ 40) (e1 : z1.2.1 22 0 = lN (a / Nat.gcd a b)) (e2 : z1.2.1 22 1 = lN (b / Nat.gcd a b)) (h1 : ∀ K, Cl E d i (.ref 0 :: as) (HP z) K = K (some (.int 1)) (HP z1)) (h2 : ∀ K, Cl E d j (.ref 129 :: as) (HP z1) K = K (some (.int 1)) (HP z2)) (e3 : z2.2.1 22 = z1.2.1 22) (e4 : z2.2.1 129 17 = lN (a / Nat.gcd a b)) (e5 : z2.2.1 129 18 = lN (b / Nat.gcd a b)) (hk : ∀ r, r < 24 ∨ (90 < r ∧ r < 129) ∨ (129 < r ∧ r < 133) → z2.1 r = z.1 r) : OpI E d i j as z :=
  ⟨1, z1, z2, h1, h2, Inv_frc hk (a := a / Nat.gcd a b) (b := b / Nat.gcd a b) ⟨Nat.lt_of_le_of_lt (Nat.div_le_self _ _) ha, Nat.lt_of_le_of_lt (Nat.div_le_self _ _) hb, by rw [e3, e1], by rw [e3, e2], e4, e5⟩ hI⟩
/-- products, as numbers -/
theorem itr_lN {g : Nat → Int64} {G : Nat → Nat} : ∀ n, (∀ i, i < n → g i = lN (G i)) → itr (fun i b => b * g i) n 1 = lN (itr (fun i b => b * G i) n 1)
  | 0, _ => rfl
  | n + 1, h => by
    show itr (fun i b => b * g i) n 1 * g n = lN (itr (fun i b => b * G i) n 1 * G n)
    rw [itr_lN n (fun i hi => h i (by omega)), h n (by omega), lN_mul]
theorem itr_bd {G : Nat → Nat} {B : Nat} : ∀ n, (∀ i, i < n → 1 ≤ G i ∧ G i ≤ B) → 1 ≤ itr (fun i b => b * G i) n 1 ∧ itr (fun i b => b * G i) n 1 ≤ B ^ n
  | 0, _ => ⟨Nat.le_refl 1, Nat.le_refl 1⟩
  | n + 1, h => by
    have ih := itr_bd n (fun i hi => h i (by omega))
    have hn := h n (by omega)
    refine ⟨Nat.mul_le_mul ih.1 hn.1, ?_⟩
    rw [Nat.pow_succ]
    exact Nat.mul_le_mul ih.2 hn.2
def leG (z : zS) (k i : Nat) : Nat := if k = 2 then 5 else if z.1 130 (110 + i) = 0 then (if k = 0 then 8 else 2) else (if k = 0 then 2 else 8)
def leN (z : zS) (k n : Nat) : Nat := itr (fun i b => b * leG z k i) n 1
theorem leG_bd (z : zS) (k i : Nat) : 1 ≤ leG z k i ∧ leG z k i ≤ 8 := by
  unfold leG
  repeat' split
  all_goals decide
theorem q_le {z : zS} {np nc ns nl ny ch ea : Nat} (h : RT z.1 1 0 np nc ns nl ny ch ea) {k : Nat} (hk : k < 3) : leZ z 1 ny (leR (nI k)) = lN (leN z k ny) ∧ itr (fun i b => b * lwF z (nI k) i) ny 1 = lN (leN z k ny) ∧ 1 ≤ leN z k ny ∧ leN z k ny ≤ 2 ^ 30 := by
  obtain ⟨-, -, hn⟩ := rt_F h
  have n1 : ny ≤ 10 := hn.2.2.2.2.2.2
  refine ⟨itr_lN ny (fun i hi => ?_), itr_lN ny (fun i hi => ?_), ?_, ?_⟩
  · obtain ⟨e, y, -, hy, ey⟩ := rt_Y h hi
    show (if z.1 19 i = 0 then _ else _) = lN (leG z k i)
    unfold leG
    rw [e, ey]
    obtain rfl | rfl : y = 0 ∨ y = 1 := by omega
    · obtain rfl | rfl | rfl : k = 0 ∨ k = 1 ∨ k = 2 := by omega
      all_goals decide
    · obtain rfl | rfl | rfl : k = 0 ∨ k = 1 ∨ k = 2 := by omega
      all_goals decide
  · obtain ⟨e, y, -, hy, ey⟩ := rt_Y h hi
    unfold leG lwF
    rw [ey]
    obtain rfl | rfl : y = 0 ∨ y = 1 := by omega
    · obtain rfl | rfl | rfl : k = 0 ∨ k = 1 ∨ k = 2 := by omega
      all_goals decide
    · obtain rfl | rfl | rfl : k = 0 ∨ k = 1 ∨ k = 2 := by omega
      all_goals decide
  · exact (itr_bd (B := 8) ny (fun i _ => leG_bd z k i)).1
  · have := (itr_bd (G := leG z k) (B := 8) ny (fun i _ => leG_bd z k i)).2
    have p : 8 ^ ny ≤ 8 ^ 10 := Nat.pow_le_pow_right (by decide) n1
    have e : (8 : Nat) ^ 10 = 2 ^ 30 := by decide
    unfold leN
    omega
theorem op_leans (E : zE) (d : Nat) {z : zS} (hI : Inv z) (w : Int32) : OpI E (d + 3) 111 212 [.int w] z := by
  obtain ⟨⟨np, nc, ns, nl, ny, ch, ea, h⟩, -⟩ := id hI
  obtain ⟨hc, hm, hn⟩ := rt_F h
  rcases inL_c (x := w) 0 2 m_d0 m_d2 (by decide) (by decide) with ⟨hv, j, -, hj, rfl⟩ | ⟨hv, hv2⟩
  · have w0 : ((2 : Int32) < nI j) = False := eq_false (nI_nlt (b := j) (a := 2) (by omega) (by decide))
    obtain ⟨a0, b0, c0, d0⟩ := q_le h (k := 0) (by decide)
    obtain ⟨a1, b1, c1, d1⟩ := q_le h (k := 1) (by decide)
    obtain ⟨a2, b2, c2, d2⟩ := q_le h (k := 2) (by decide)
    obtain ⟨aj, bj, cj, dj⟩ := q_le h (k := j) (by omega)
    have e0 : nI 0 = 0 := rfl
    have e1 : nI 1 = 1 := rfl
    have e2 : nI 2 = 2 := rfl
    rw [e0] at a0 b0
    rw [e1] at a1 b1
    rw [e2] at a2 b2
    have cl := fun (w : Int32) (K : Option Value → zH → Prop) => t_leaning isT_1 (n := ny) (by omega) (z := z) hc.2.2.2.2.2.2 E (d + 2) w K
    have be := f_become o2_22 E (d + 1) (a := leN z j ny) (b := leN z 0 ny + leN z 1 ny + leN z 2 ny) (by omega) (by omega) (by omega) z
    refine op_frc hI (a := leN z j ny) (b := (leN z 0 ny + leN z 1 ny + leN z 2 ny)) (z1 := (z.1, set2L (set2L z.2.1 22 0 (lN (leN z j ny / Nat.gcd (leN z j ny) (leN z 0 ny + leN z 1 ny + leN z 2 ny)))) 22 1 (lN ((leN z 0 ny + leN z 1 ny + leN z 2 ny) / Nat.gcd (leN z j ny) (leN z 0 ny + leN z 1 ny + leN z 2 ny))), z.2.2)) (z2 := (z.1, set2L (set2L (set2L (set2L z.2.1 22 0 (lN (leN z j ny / Nat.gcd (leN z j ny) (leN z 0 ny + leN z 1 ny + leN z 2 ny)))) 22 1 (lN ((leN z 0 ny + leN z 1 ny + leN z 2 ny) / Nat.gcd (leN z j ny) (leN z 0 ny + leN z 1 ny + leN z 2 ny)))) 129 17 (lN (leN z j ny / Nat.gcd (leN z j ny) (leN z 0 ny + leN z 1 ny + leN z 2 ny)))) 129 18 (lN ((leN z 0 ny + leN z 1 ny + leN z 2 ny) / Nat.gcd (leN z j ny) (leN z 0 ny + leN z 1 ny + leN z 2 ny))), z.2.2)) (by omega) (by omega) ?_ ?_ (fun K => ?_) (fun K => ?_) ?_ ?_ ?_ (fun _ _ => rfl)
    · dsimp only
      rw [set2L_n (Or.inr (by decide)), set2L_s]
    · dsimp only
      rw [set2L_s]
    · simp only [↓c_X8_leans, ↓e_X8_leans_0, ↓e_X8_leans_4, ↓e_X8_leans_9, ↓e_X8_leans_17, ↓e_X8_leans_18, ↓e_X8_leans_22, ↓e_X8_leans_26, ↓e_X8_leans_30, ↓e_X8_leans_34, ↓e_X8_leans_39, ↓e_X8_leans_43, ↓e_X8_leans_49, ↓e_X8_leans_53, ↓e_X8_leans_57, ↓e_X8_leans_61, nI_neg (show j < 2 ^ 31 by omega), w0, g8 o8_0, v7 o7_1, v2 o2_22, Nat.reduceAdd, cl, a0, a1, a2, aj, lN_add, be, zps_s, zps_n, zk_i, zk_r, zk_l, zk_n, ↓reduceIte]
    · generalize hz1 : ((z.1, set2L (set2L z.2.1 22 0 (lN (leN z j ny / Nat.gcd (leN z j ny) (leN z 0 ny + leN z 1 ny + leN z 2 ny)))) 22 1 (lN ((leN z 0 ny + leN z 1 ny + leN z 2 ny) / Nat.gcd (leN z j ny) (leN z 0 ny + leN z 1 ny + leN z 2 ny))), z.2.2) : zS) = z1
      have q1 : z1.1 = z.1 := by rw [← hz1]
      have ml := fun (w : Int32) (K : Option Value → zH → Prop) => m_leanOf E (d + 2) w (n := ny) (by omega) (z := z1) (by rw [q1]; exact hm.2.2.2.2.2.2) K
      have lw : ∀ w, (fun (i : Nat) (b : Int64) => b * lwF z1 w i) = fun (i : Nat) (b : Int64) => b * lwF z w i := fun w => by
        funext i b
        unfold lwF
        rw [q1]
      have te := m_tell E (d + 2) (a := leN z j ny) (b := leN z 0 ny + leN z 1 ny + leN z 2 ny) (by omega) (by omega) (by omega) z1
      simp only [↓c_X9_leans, ↓e_X9_leans_0, ↓e_X9_leans_9, ↓e_X9_leans_12, ↓e_X9_leans_16, ↓e_X9_leans_17, ↓e_X9_leans_23, ↓e_X9_leans_28, ↓e_X9_leans_33, ↓e_X9_leans_39, ↓e_X9_leans_43, v9 o9_129, m_in, hv, zps_s, bI_0, ml, lw, b0, b1, b2, bj, lN_add, te, zk_i, zk_r, zk_l, zk_n, reduceCtorEq, ↓reduceIte]
      rw [← hz1]
    · dsimp only
      rw [set2L_a (by decide), set2L_a (by decide)]
    · dsimp only
      rw [set2L_n (Or.inr (by decide)), set2L_s]
    · dsimp only
      rw [set2L_s]
  · refine op_ref hI 0 (-2) (fun K => ?_) (fun z1 K hr e => ?_)
    · by_cases q : w < 0
      · simp only [↓c_X8_leans, ↓e_X8_leans_0, ↓e_X8_leans_4, ↓e_X8_leans_9, ↓e_X8_leans_17, ↓e_X8_leans_18, ↓e_X8_leans_22, ↓e_X8_leans_26, ↓e_X8_leans_30, ↓e_X8_leans_34, ↓e_X8_leans_39, ↓e_X8_leans_43, ↓e_X8_leans_49, ↓e_X8_leans_53, ↓e_X8_leans_57, ↓e_X8_leans_61, q, v8 o8_0, Nat.reduceAdd, x_bad, zps_s, zk_i, zk_r, zk_n, ↓reduceIte]
      · have q1 : (2 : Int32) < w := hv2.resolve_left q
        simp only [↓c_X8_leans, ↓e_X8_leans_0, ↓e_X8_leans_4, ↓e_X8_leans_9, ↓e_X8_leans_17, ↓e_X8_leans_18, ↓e_X8_leans_22, ↓e_X8_leans_26, ↓e_X8_leans_30, ↓e_X8_leans_34, ↓e_X8_leans_39, ↓e_X8_leans_43, ↓e_X8_leans_49, ↓e_X8_leans_53, ↓e_X8_leans_57, ↓e_X8_leans_61, q, q1, v8 o8_0, Nat.reduceAdd, x_bad, zps_s, zk_i, zk_r, zk_n, ↓reduceIte]
    · simp only [↓c_X9_leans, ↓e_X9_leans_0, ↓e_X9_leans_9, ↓e_X9_leans_12, ↓e_X9_leans_16, ↓e_X9_leans_17, ↓e_X9_leans_23, ↓e_X9_leans_28, ↓e_X9_leans_33, ↓e_X9_leans_39, ↓e_X9_leans_43, v9 o9_129, m_in, hv, zps_s, bI_0, m_bad, zk_i, zk_r, zk_n, ↓reduceIte]
