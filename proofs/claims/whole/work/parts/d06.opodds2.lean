/-! ODDS: the operation -/
theorem x_all (E : zE) (d : Nat) {nc : Nat} (hnc : nc ≤ 6) {z : zS} (hz : z.1 59 4 = nI nc) (K : Option Value → zH → Prop) : Cl E (d + 1) 13 [.ref 58] (HP z) K = K (some (.long (lN (20 ^ nc)))) (HP z) := by
  have p := x_power E d (b := 20) (n := nc) (by decide) (by omega) (HP z)
  rw [show nI 20 = 20 from by decide] at p
  simp only [↓c_X1_waysInAll, ↓e_X1_waysInAll_0, ↓e_X1_waysInAll_6, ↓e_X1_waysInAll_9, ↓e_X1_waysInAll_12, g1 o1_58, g6 o6_59, Nat.reduceAdd, hz, p, zps_s, zk_i, zk_r, zk_l, zk_n]
theorem w_all (E : zE) (d : Nat) {nc : Nat} (hnc : nc ≤ 6) {z : zS} (hz : z.1 130 105 = nI nc) (K : Option Value → zH → Prop) : Cl E d 192 [.ref 129] (HP z) K = K (some (.long (lN (20 ^ nc)))) (HP z) := by
  rw [m_whole E d (by omega) hz]
  have e : ∀ n, itr (fun _ (b : Int64) => b * 20) n 1 = lN (20 ^ n) := fun n => by
    induction n with
    | zero => rfl
    | succ n ih => rw [itr_s, ih, show (20 : Int64) = lN 20 from by decide, lN_mul, Nat.pow_succ]
  rw [e]
theorem q_lay {z : zS} {np nc ns nl ny ch ea : Nat} (h : RT z.1 1 0 np nc ns nl ny ch ea) (E : zE) (d : Nat) {f : Nat → Nat → Int32} (t : (Nat → Nat → Int64) × Nat) (hf : f 130 = z.1 130) : ∃ f' : Nat → Nat → Int32, (∀ a, a ≠ 134 → f' a = f a) ∧ RD f' nc np (caR z) (bhR z) (fun a => lcrow z np ns ch a) (ilR z) ∧ ∀ K, Cl E (d + 2) 159 [.ref 129] (HP (f, t)) K = K none (HP (f', t)) := by
  obtain ⟨hc, hm, hn⟩ := rt_F h
  have l := m_layClashes E d (np := np) (ns := ns) (ch := ch) hn.1 hn.2.2.1 hn.2.2.2.1 (z := (f, t)) (by show f 130 104 = _; rw [hf]; exact hm.1) (by show f 130 106 = _; rw [hf]; exact hm.2.2.1) (by show f 130 107 = _; rw [hf]; exact hm.2.2.2.1)
  refine ⟨setR f 134 (itr (fun a g => upd g a (lcrow (f, t) np ns ch a)) np (f 134)), fun a ha => setR_n ha _ _, ?_, l⟩
  refine ⟨?_, ?_, fun p hp => ?_, fun p hp => ?_, fun p hp => ?_, fun c hc => ?_⟩
  · rw [setR_n (by decide)]
    show f 130 105 = _
    rw [hf]
    exact hm.2.1
  · rw [setR_n (by decide)]
    show f 130 104 = _
    rw [hf]
    exact hm.1
  · rw [setR_n (by decide)]
    show f 130 (18 + p) = _
    rw [hf]
    rfl
  · rw [setR_n (by decide)]
    show f 130 (24 + p) = _
    rw [hf]
    rfl
  · rw [setR_s, itr_updv (fun a => lcrow (f, t) np ns ch a), if_pos hp]
    unfold lcrow
    refine itr_congr np (fun b _ => ?_)
    rw [ccB_c (z := (f, t)) (z' := z) hf]
  · rw [setR_n (by decide)]
    show f 130 (36 + 5 * c + 4) = _
    rw [hf]
    exact (q_il h hc).2
theorem op_odds (E : zE) (d : Nat) {z : zS} (hI : Inv z) : OpI E (d + 6) 103 195 [] z := by
  obtain ⟨⟨np, nc, ns, nl, ny, ch, ea, h⟩, -⟩ := id hI
  obtain ⟨hc, hm, hn⟩ := rt_F h
  have hca : ∀ p, p < np → orN (caR z p) nc := fun p hp => (rt_P h hp).2.2.2.2.2.2.2.2.2.1
  have hbh : ∀ p, p < np → orN (bhR z p) nc := fun p hp => (rt_P h hp).2.2.2.2.2.2.2.2.2.2.1
  have hIL : ∀ c, c < nc → ilR z c ≤ 19 := fun c hc => (q_il h hc).1
  obtain ⟨v1', z1, ⟨e0, e1, e2, e3, hD, hw, -, -⟩, k1⟩ := Hr_use (x_ready E d h)
  subst e0
  obtain ⟨v2, z2, ⟨e4, e5, e6⟩, k2⟩ := Hr_use (x_ways E (d + 2) hn.2.1 hn.1 hIL hca hbh (f := z1.1) (t := z1.2) hD hw)
  subst e4
  obtain ⟨A, hA⟩ : ∃ A, A = odC nc np (fun a => lcrow z np ns ch a) (caR z) (bhR z) (ilR z) 64 := ⟨_, rfl⟩
  rw [← hA] at k2
  have A40 : A < 2 ^ 40 := by
    have := od_le hn.2.1 np (fun a => lcrow z np ns ch a) (caR z) (bhR z) hIL 64
    rw [← hA] at this
    omega
  have B1 : 20 ^ nc ≤ 20 ^ 6 := Nat.pow_le_pow_right (by decide) hn.2.1
  have B40 : 20 ^ nc < 2 ^ 40 := by omega
  have B0 : 0 < 20 ^ nc := Nat.pow_pos (by decide)
  have k3 := x_all E (d + 4) hn.2.1 (z := z2) (by rw [e6 59 (by decide)]; exact hD.1)
  have k4 := f_become o2_22 E (d + 4) A40 B40 B0 z2
  obtain ⟨z3, hz3⟩ : ∃ z3 : zS, z3 = (z2.1, set2L (set2L z2.2.1 22 0 (lN (A / Nat.gcd A (20 ^ nc)))) 22 1 (lN (20 ^ nc / Nat.gcd A (20 ^ nc))), z2.2.2) := ⟨_, rfl⟩
  rw [← hz3] at k4
  have r3 : z3.1 130 = z.1 130 := by rw [hz3]; show z2.1 130 = _; rw [e6 130 (by decide), e1 130 (by omega)]
  obtain ⟨f4, r4, hR, k5⟩ := q_lay h E (d + 3) (f := z3.1) z3.2 r3
  obtain ⟨v5, z5, ⟨e7, e8, e9⟩, k6⟩ := Hr_use (m_oddsOf E (d + 3) hn.2.1 hn.1 hIL hca hbh (t := z3.2) hR)
  subst e7
  rw [← hA] at k6
  have k7 := w_all E (d + 5) hn.2.1 (z := z5) (by rw [e9 130 (by decide)]; exact hR.1)
  have k8 := m_tell E (d + 5) (a := A) (b := 20 ^ nc) (by omega) (by omega) B0 z5
  refine op_frc hI (a := A) (b := 20 ^ nc) (z1 := z3) (z2 := (z5.1, set2L (set2L z5.2.1 129 17 (lN (A / Nat.gcd A (20 ^ nc)))) 129 18 (lN (20 ^ nc / Nat.gcd A (20 ^ nc))), z5.2.2)) A40 B40 ?_ ?_ (fun K => ?_) (fun K => ?_) ?_ ?_ ?_ (fun r hr => ?_)
  · rw [hz3]
    dsimp only
    rw [set2L_n (Or.inr (by decide)), set2L_s]
  · rw [hz3]
    dsimp only
    rw [set2L_s]
  · have t1 : ∀ K, Cl E (d + 5) 14 [.ref 58] (HP z1) K = K (some (.long (lN A))) (HP z2) := k2
    simp only [↓c_X8_odds, ↓e_X8_odds_0, ↓e_X8_odds_4, ↓e_X8_odds_8, ↓e_X8_odds_11, ↓e_X8_odds_15, ↓e_X8_odds_19, ↓e_X8_odds_22, ↓e_X8_odds_26, ↓e_X8_odds_29, ↓e_X8_odds_32, g8 o8_0, v1 o1_58, v2 o2_22, Nat.reduceAdd, k1, t1, k3, k4, zps_s, zps_n, zk_i, zk_r, zk_l, zk_n]
  · have t5 : ∀ K, Cl E (d + 5) 159 [.ref 129] (HP z3) K = K none (HP (f4, z3.2)) := k5
    simp only [↓c_X9_odds, ↓e_X9_odds_0, ↓e_X9_odds_4, ↓e_X9_odds_9, ↓e_X9_odds_13, ↓e_X9_odds_16, v9 o9_129, Nat.reduceAdd, t5, k6, k7, k8, zps_s, zps_n, zk_i, zk_r, zk_l, zk_n]
  · dsimp only
    rw [set2L_a (by decide), set2L_a (by decide), e8]
  · dsimp only
    rw [set2L_n (Or.inr (by decide)), set2L_s]
  · dsimp only
    rw [set2L_s]
  · show z5.1 r = z.1 r
    rw [e9 r (by omega), r4 r (by omega), hz3]
    show z2.1 r = z.1 r
    rw [e6 r (by omega), e1 r (by omega)]
