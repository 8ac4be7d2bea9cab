/-! ODDS: the sums, and the operation -/
def smN (F : Nat → Nat) (n : Nat) : Nat := itr (fun i s => s + F i) n 0
theorem sm_s (F : Nat → Nat) (n : Nat) : smN F (n + 1) = smN F n + F n := rfl
theorem sm_0 (F : Nat → Nat) : ∀ n, smN F (n + 1) = F 0 + smN (fun i => F (i + 1)) n
  | 0 => by rw [sm_s]; exact Nat.add_comm _ _
  | n + 1 => by
    rw [sm_s, sm_0 F n, sm_s]
    omega
theorem sm_c {F G : Nat → Nat} : ∀ n, (∀ i, i < n → F i = G i) → smN F n = smN G n
  | 0, _ => rfl
  | n + 1, h => by rw [sm_s, sm_s, sm_c n (fun i hi => h i (by omega)), h n (by omega)]
theorem sm_r : ∀ (n : Nat) (F : Nat → Nat), smN (fun i => F (n - 1 - i)) n = smN F n
  | 0, F => rfl
  | n + 1, F => by
    rw [sm_0 F n, sm_s, ← sm_r n (fun i => F (i + 1))]
    have e : smN (fun i => F (n + 1 - 1 - i)) n = smN (fun i => F (n - 1 - i + 1)) n := sm_c n (fun i hi => by rw [show n + 1 - 1 - i = n - 1 - i + 1 by omega])
    rw [e, show n + 1 - 1 - n = 0 by omega]
    omega
theorem sm_t {F : Nat → Nat} {n : Nat} : ∀ k, (∀ i, n ≤ i → F i = 0) → smN F (n + k) = smN F n
  | 0, _ => rfl
  | k + 1, h => by rw [show n + (k + 1) = (n + k) + 1 by omega, sm_s, sm_t k h, h (n + k) (by omega), Nat.add_zero]
noncomputable def tR (nc np : Nat) (cm ca bh : Nat → Int32) (il : Nat → Nat) (i : Nat) : Nat := tmN nc np cm ca bh il (fun c => !i.testBit c) (wyN nc il (fun c => !i.testBit c) 1)
theorem tm_c {nc np : Nat} (hnc : nc ≤ 6) {cm ca bh : Nat → Int32} (il : Nat → Nat) (hca : ∀ p, p < np → orN (ca p) nc) (hbh : ∀ p, p < np → orN (bh p) nc) {w w' : Nat → Bool} (h : ∀ c, c < nc → w c = w' c) (y : Nat) : tmN nc np cm ca bh il w y = tmN nc np cm ca bh il w' y := by
  have e := gd_c hnc (cm := cm) hca hbh h
  unfold tmN
  by_cases q : gdP nc np cm ca bh w
  · rw [if_pos q, if_pos (e.mp q)]
  · rw [if_neg q, if_neg (fun h => q (e.mpr h))]
theorem od_eq {nc np : Nat} (hnc : nc ≤ 6) {cm ca bh : Nat → Int32} (il : Nat → Nat) (hca : ∀ p, p < np → orN (ca p) nc) (hbh : ∀ p, p < np → orN (bh p) nc) : smN (tR nc np cm ca bh il) (2 ^ nc) = odC nc np cm ca bh il 64 := by
  have h64 : 2 ^ nc ≤ 64 := Nat.pow_le_pow_right (n := 2) (j := 6) (by decide) hnc
  show _ = smN (fun x => tmN nc np cm ca bh il (fun c => x.testBit c) (wyX nc il x)) 64
  have e1 : smN (fun x => tmN nc np cm ca bh il (fun c => x.testBit c) (wyX nc il x)) 64 = smN (fun x => tmN nc np cm ca bh il (fun c => x.testBit c) (wyX nc il x)) (2 ^ nc) := by
    have := sm_t (F := fun x => tmN nc np cm ca bh il (fun c => x.testBit c) (wyX nc il x)) (n := 2 ^ nc) (64 - 2 ^ nc) (fun i hi => by
      have a := tm_le nc np cm ca bh il (fun c => i.testBit c) (wyX nc il i)
      have b : wyX nc il i = 0 := by
        unfold wyX
        rw [if_neg (by omega), wy_0]
      rw [b] at a ⊢
      omega)
    rw [show 2 ^ nc + (64 - 2 ^ nc) = 64 by omega] at this
    exact this
  rw [e1, ← sm_r (2 ^ nc) (fun x => tmN nc np cm ca bh il (fun c => x.testBit c) (wyX nc il x))]
  refine sm_c (2 ^ nc) (fun i hi => ?_)
  have tb : ∀ c, c < nc → (!i.testBit c) = (2 ^ nc - 1 - i).testBit c := fun c hc => by
    rw [show 2 ^ nc - 1 - i = 2 ^ nc - (i + 1) by omega, Nat.testBit_two_pow_sub_succ hi, decide_eq_true hc, Bool.true_and]
  unfold tR wyX
  rw [if_pos (by omega), tm_c hnc il hca hbh tb, wy_c 1 nc tb (fun c _ => rfl)]
theorem sh_1 : ∀ n, n < 7 → (1 : Int32) <<< (nI n &&& 31) = nI (2 ^ n) := by decide +kernel
set_option maxRecDepth 100000 in
theorem m_oddsOf (E : zE) (d : Nat) {nc np : Nat} (hnc : nc ≤ 6) (hnp : np ≤ 6) {ca bh cm : Nat → Int32} {IL : Nat → Nat} (hIL : ∀ c, c < nc → IL c ≤ 19) (hca : ∀ p, p < np → orN (ca p) nc) (hbh : ∀ p, p < np → orN (bh p) nc) {f : Nat → Nat → Int32} {t : (Nat → Nat → Int64) × Nat} (hD : RD f nc np ca bh cm IL) : Hr E (d + 2) 193 [.ref 129] (f, t) (fun v z' => v = some (.long (lN (odC nc np cm ca bh IL 64))) ∧ z'.2 = t ∧ ∀ a, a ≠ 135 → z'.1 a = f a) := by
  have n1 : nc < 2 ^ 31 := by omega
  have h64 : 2 ^ nc ≤ 64 := Nat.pow_le_pow_right (n := 2) (j := 6) (by decide) hnc
  rw [← od_eq hnc IL hca hbh]
  unfold Hr
  generalize hQ : (fun (v : Option Value) (h : zH) => ∃ z' : zS, h = HP z' ∧ (v = some (.long (lN (smN (tR nc np cm ca bh IL) (2 ^ nc)))) ∧ z'.2 = t ∧ ∀ a, a ≠ 135 → z'.1 a = f a)) = Q
  have st : ∀ f', (∀ a, a ≠ 135 → f' a = f a) → ∀ K, zri E (HP (f', t)) 130 (nI 105) K = K (nI nc) := fun f' hf K => by
    rw [ri_k i130 (by decide) (by decide)]
    show K (f' 130 105) = K (nI nc)
    rw [hf 130 (by decide), hD.1]
  have loop : ∀ k i (f' : Nat → Nat → Int32) (y y2 y3 : Option Value), i + k = 2 ^ nc → (∀ a, a ≠ 135 → f' a = f a) → Ev E (d + 2) zm_X9_oddsOf 4 [some (.ref 129), some (.long (lN (smN (tR nc np cm ca bh IL) i))), none, some (.int (nI i)), y, y2, y3] [] (HP (f', t)) Q := by
    intro k
    induction k with
    | zero =>
      intro i f' y y2 y3 hik hf
      have e : i = 2 ^ nc := by omega
      subst e
      have q : Q (some (.long (lN (smN (tR nc np cm ca bh IL) (2 ^ nc))))) (HP (f', t)) := by
        rw [← hQ]
        exact ⟨(f', t), rfl, rfl, rfl, hf⟩
      have s := st f' hf
      rw [e_X9_oddsOf_4]
      simp only [↓e_X9_oddsOf_10, ↓e_X9_oddsOf_13, ↓e_X9_oddsOf_17, ↓e_X9_oddsOf_22, ↓e_X9_oddsOf_25, ↓e_X9_oddsOf_29, ↓e_X9_oddsOf_30, ↓e_X9_oddsOf_41, ↓e_X9_oddsOf_44, ↓e_X9_oddsOf_47, ↓e_X9_oddsOf_59, ↓e_X9_oddsOf_66, ↓e_X9_oddsOf_70, ↓e_X9_oddsOf_79, ↓e_X9_oddsOf_81, ↓e_X9_oddsOf_90, ↓e_X9_oddsOf_101, g9 o9_129, Nat.reduceAdd, n105, s, sh_1 nc (by omega), nI_lt_iff (show 2 ^ nc < 2 ^ 31 by omega) (show 2 ^ nc < 2 ^ 31 by omega), Nat.lt_irrefl, zk_i, zk_r, zk_l, zk_n, ↓reduceIte]
      exact q
    | succ k ihk =>
      intro i f' y y2 y3 hik hf
      have hi : i < 2 ^ nc := by omega
      obtain ⟨v, z1, ⟨e1, e2, b, e3, e4⟩, hk⟩ := Hr_use (m_goes E d hnc hnp hca hbh (t := t) (RD_c hf hD) i)
      obtain ⟨f1, t1⟩ := z1
      dsimp only at e1 e2
      subst e1
      subst e3
      have f1f : ∀ a, a ≠ 135 → f1 a = f a := fun a ha => by rw [e2 a ha, hf a ha]
      have hD1 := RD_c f1f hD
      have s := st f' hf
      have s1 := st f1 f1f
      obtain ⟨w, hw⟩ : ∃ w : Nat → Bool, w = fun c => !i.testBit c := ⟨_, rfl⟩
      have inner := fun s0 => itr_eq (fun c b => Ev E (d + 2) zm_X9_oddsOf 35 [some (.ref 129), some (.long (lN (smN (tR nc np cm ca bh IL) i))), none, some (.int (nI i)), some (.long (lN b)), none, some (.int (nI c))] [] (HP (f1, t1)) Q) (fun c b => b * (if w c = true then 20 - IL c else IL c)) s0 nc (fun c hc => by
        generalize itr _ c _ = b
        have o := m_of E (d + 1) (show c < 6 by omega) (show 4 < 5 by decide) (f1, t1)
        rw [show nI 4 = 4 from by decide] at o
        have h67 := hD1.2.2.2.2.2 c hc
        have hI := hIL c hc
        cases hb : i.testBit c with
        | true =>
          rw [e_X9_oddsOf_35, if_neg (by rw [hw]; show ¬ (!i.testBit c) = true; rw [hb]; decide), ← lN_mul, ← l19 _ (show IL c < 20 by omega)]
          simp only [↓e_X9_oddsOf_10, ↓e_X9_oddsOf_13, ↓e_X9_oddsOf_17, ↓e_X9_oddsOf_22, ↓e_X9_oddsOf_25, ↓e_X9_oddsOf_29, ↓e_X9_oddsOf_30, ↓e_X9_oddsOf_41, ↓e_X9_oddsOf_44, ↓e_X9_oddsOf_47, ↓e_X9_oddsOf_59, ↓e_X9_oddsOf_66, ↓e_X9_oddsOf_70, ↓e_X9_oddsOf_79, ↓e_X9_oddsOf_81, ↓e_X9_oddsOf_90, ↓e_X9_oddsOf_101, g9 o9_129, v9 o9_129, Nat.reduceAdd, n105, s1, nI_lt_iff (show c < 2 ^ 31 by omega) n1, hc, bit1 (show c < 32 by omega), bt_n (show c < 32 by omega), hb, o, h67, zps_s, nI_1, zk_i, zk_r, zk_l, zk_n, ↓reduceIte]
        | false =>
          rw [e_X9_oddsOf_35, if_pos (by rw [hw]; show (!i.testBit c) = true; rw [hb]; rfl), ← lN_mul, ← l20 _ (show IL c < 20 by omega)]
          simp only [↓e_X9_oddsOf_10, ↓e_X9_oddsOf_13, ↓e_X9_oddsOf_17, ↓e_X9_oddsOf_22, ↓e_X9_oddsOf_25, ↓e_X9_oddsOf_29, ↓e_X9_oddsOf_30, ↓e_X9_oddsOf_41, ↓e_X9_oddsOf_44, ↓e_X9_oddsOf_47, ↓e_X9_oddsOf_59, ↓e_X9_oddsOf_66, ↓e_X9_oddsOf_70, ↓e_X9_oddsOf_79, ↓e_X9_oddsOf_81, ↓e_X9_oddsOf_90, ↓e_X9_oddsOf_101, g9 o9_129, v9 o9_129, Nat.reduceAdd, n105, s1, nI_lt_iff (show c < 2 ^ 31 by omega) n1, hc, bit1 (show c < 32 by omega), bt_n (show c < 32 by omega), hb, o, h67, zps_s, reduceCtorEq, nI_1, zk_i, zk_r, zk_l, zk_n, ↓reduceIte])
      have nx := fun b => ihk (i + 1) f1 (some (.long b)) none (some (.int (nI nc))) (by omega) f1f
      have fin : ∀ b, Ev E (d + 2) zm_X9_oddsOf 35 [some (.ref 129), some (.long (lN (smN (tR nc np cm ca bh IL) i))), none, some (.int (nI i)), some (.long (lN b)), none, some (.int (nI nc))] [] (HP (f1, t1)) Q = Ev E (d + 2) zm_X9_oddsOf 4 [some (.ref 129), some (.long (lN (smN (tR nc np cm ca bh IL) i + b))), none, some (.int (nI (i + 1))), some (.long (lN b)), none, some (.int (nI nc))] [] (HP (f1, t1)) Q := fun b => by
        rw [e_X9_oddsOf_35]
        simp only [↓e_X9_oddsOf_10, ↓e_X9_oddsOf_13, ↓e_X9_oddsOf_17, ↓e_X9_oddsOf_22, ↓e_X9_oddsOf_25, ↓e_X9_oddsOf_29, ↓e_X9_oddsOf_30, ↓e_X9_oddsOf_41, ↓e_X9_oddsOf_44, ↓e_X9_oddsOf_47, ↓e_X9_oddsOf_59, ↓e_X9_oddsOf_66, ↓e_X9_oddsOf_70, ↓e_X9_oddsOf_79, ↓e_X9_oddsOf_81, ↓e_X9_oddsOf_90, ↓e_X9_oddsOf_101, g9 o9_129, v9 o9_129, Nat.reduceAdd, n105, s1, nI_lt_iff n1 n1, Nat.lt_irrefl, lN_add, nI_1, zk_i, zk_r, zk_l, zk_n, ↓reduceIte]
      cases b with
      | false =>
        have l0 := inner 0
        rw [fin, nI_0] at l0
        have z0 : itr (fun c b => b * (if w c = true then 20 - IL c else IL c)) nc 0 = 0 := wy_0 nc IL w
        have z1 : tR nc np cm ca bh IL i = 0 := by
          unfold tR tmN
          rw [if_neg (fun h => absurd (e4.mpr h) (by decide))]
        have nx := nx (lN 0)
        rw [sm_s, z1] at nx
        rw [z0] at l0
        rw [e_X9_oddsOf_4]
        simp only [↓e_X9_oddsOf_10, ↓e_X9_oddsOf_13, ↓e_X9_oddsOf_17, ↓e_X9_oddsOf_22, ↓e_X9_oddsOf_25, ↓e_X9_oddsOf_29, ↓e_X9_oddsOf_30, ↓e_X9_oddsOf_41, ↓e_X9_oddsOf_44, ↓e_X9_oddsOf_47, ↓e_X9_oddsOf_59, ↓e_X9_oddsOf_66, ↓e_X9_oddsOf_70, ↓e_X9_oddsOf_79, ↓e_X9_oddsOf_81, ↓e_X9_oddsOf_90, ↓e_X9_oddsOf_101, g9 o9_129, v9 o9_129, Nat.reduceAdd, n105, s, sh_1 nc (by omega), nI_lt_iff (show i < 2 ^ 31 by omega) (show 2 ^ nc < 2 ^ 31 by omega), hi, hk, zps_s, bI_f, zk_i, zk_r, zk_l, zk_n, ↓reduceIte]
        rw [show (0 : Int64) = lN 0 from by decide, l0]
        exact nx
      | true =>
        have l0 := inner 1
        rw [fin, nI_0] at l0
        have z1 : tR nc np cm ca bh IL i = itr (fun c b => b * (if w c = true then 20 - IL c else IL c)) nc 1 := by
          unfold tR tmN
          rw [if_pos (e4.mp rfl), hw]
          rfl
        rw [← z1] at l0
        have nx := nx (lN (tR nc np cm ca bh IL i))
        rw [sm_s] at nx
        rw [e_X9_oddsOf_4]
        simp only [↓e_X9_oddsOf_10, ↓e_X9_oddsOf_13, ↓e_X9_oddsOf_17, ↓e_X9_oddsOf_22, ↓e_X9_oddsOf_25, ↓e_X9_oddsOf_29, ↓e_X9_oddsOf_30, ↓e_X9_oddsOf_41, ↓e_X9_oddsOf_44, ↓e_X9_oddsOf_47, ↓e_X9_oddsOf_59, ↓e_X9_oddsOf_66, ↓e_X9_oddsOf_70, ↓e_X9_oddsOf_79, ↓e_X9_oddsOf_81, ↓e_X9_oddsOf_90, ↓e_X9_oddsOf_101, g9 o9_129, v9 o9_129, Nat.reduceAdd, n105, s, sh_1 nc (by omega), nI_lt_iff (show i < 2 ^ 31 by omega) (show 2 ^ nc < 2 ^ 31 by omega), hi, hk, zps_s, bI_t, i01, zk_i, zk_r, zk_l, zk_n, ↓reduceIte]
        rw [show (1 : Int64) = lN 1 from by decide, l0]
        exact nx
  have start := loop (2 ^ nc) 0 f none none none (by omega) (fun _ _ => rfl)
  rw [nI_0] at start
  simp only [↓c_X9_oddsOf, ↓e_X9_oddsOf_0, ↓e_X9_oddsOf_10, ↓e_X9_oddsOf_13, ↓e_X9_oddsOf_17, ↓e_X9_oddsOf_22, ↓e_X9_oddsOf_25, ↓e_X9_oddsOf_29, ↓e_X9_oddsOf_30, ↓e_X9_oddsOf_41, ↓e_X9_oddsOf_44, ↓e_X9_oddsOf_47, ↓e_X9_oddsOf_59, ↓e_X9_oddsOf_66, ↓e_X9_oddsOf_70, ↓e_X9_oddsOf_79, ↓e_X9_oddsOf_81, ↓e_X9_oddsOf_90, ↓e_X9_oddsOf_101, zk_i, zk_r, zk_n]
  exact start
