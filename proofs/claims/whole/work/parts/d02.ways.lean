/-! ODDS: the ways, in the class -/
def wyN (nc : Nat) (il : Nat → Nat) (w : Nat → Bool) (s : Nat) : Nat := itr (fun c b => b * (if w c = true then 20 - il c else il c)) nc s
theorem wy_0 (nc : Nat) (il : Nat → Nat) (w : Nat → Bool) : wyN nc il w 0 = 0 := by
  unfold wyN
  induction nc with
  | zero => rfl
  | succ n ih => rw [itr_s, ih, Nat.zero_mul]
theorem wy_c {il il' : Nat → Nat} {w w' : Nat → Bool} (s : Nat) : ∀ nc, (∀ c, c < nc → w c = w' c) → (∀ c, c < nc → il c = il' c) → wyN nc il w s = wyN nc il' w' s
  | 0, _, _ => rfl
  | n + 1, h, h' => by
    have ih := wy_c (il := il) (il' := il') (w := w) (w' := w') s n (fun c hc => h c (by omega)) (fun c hc => h' c (by omega))
    unfold wyN at ih ⊢
    rw [itr_s, itr_s, ih, h n (by omega), h' n (by omega)]
theorem wy_le {il : Nat → Nat} {w : Nat → Bool} : ∀ nc, (∀ c, c < nc → il c ≤ 19) → wyN nc il w 1 ≤ 20 ^ nc
  | 0, _ => Nat.le_refl 1
  | n + 1, h => by
    have ih := wy_le (il := il) (w := w) n (fun c hc => h c (by omega))
    unfold wyN at ih ⊢
    rw [itr_s, Nat.pow_succ]
    have := h n (by omega)
    exact Nat.mul_le_mul ih (by split <;> omega)
def wyX (nc : Nat) (il : Nat → Nat) (x : Nat) : Nat := wyN nc il (fun c => x.testBit c) (if x < 2 ^ nc then 1 else 0)
theorem wyX_le {nc : Nat} (hnc : nc ≤ 6) {il : Nat → Nat} (h : ∀ c, c < nc → il c ≤ 19) (x : Nat) : wyX nc il x ≤ 20 ^ 6 := by
  unfold wyX
  split
  · exact Nat.le_trans (wy_le nc h) (Nat.pow_le_pow_right (by decide) hnc)
  · rw [wy_0]
    exact Nat.zero_le _
theorem sh_x : ∀ x, x < 64 → ∀ n, n < 7 → ((nI x >>> (nI n &&& 31) = 0) ↔ x < 2 ^ n) := by decide +kernel
theorem l20 : ∀ m, m < 20 → ((20 : Int32) - nI m).toInt64 = lN (20 - m) := by decide +kernel
theorem l19 : ∀ m, m < 20 → (nI m).toInt64 = lN m := by decide +kernel
theorem L75 : isL 75 64 := rfl
theorem HP_alL {E : zE} {z : zS} {o n : Nat} {K : Int32 → Prop} (ho : isL o n) : zal E (HP z) o K = K (nI n) := by
  have hg : zar E (HP z) o = some (.inl (2, n, .inr (.inl (z.2.1 o)))) := by
    unfold zar
    rw [HP_get ho]
    rfl
  unfold zal
  rw [hg]
  rfl
theorem rl_k {o n k : Nat} (ho : isL o n) (hk : k < n) (hn : n < 2 ^ 31) (z : zS) (K : Int64 → Prop) : zrl (HP z) o (nI k) K = K (z.2.1 o k) := by
  rw [HP_rl ho, nI_cl (by omega)]
  simp only [in_nI hk hn, true_and]
theorem wl_k {o n k : Nat} (ho : isL o n) (hk : k < n) (hn : n < 2 ^ 31) (z : zS) (x : Int64) (K : zH → Prop) : zwl (HP z) o (nI k) x K = K (HP (z.1, set2L z.2.1 o k x, z.2.2)) := by
  rw [HP_wl ho, nI_cl (by omega)]
  simp only [in_nI hk hn, true_and]
theorem x_waysOf (E : zE) (d : Nat) {nc np : Nat} (hnc : nc ≤ 6) {ca bh cm : Nat → Int32} {IL : Nat → Nat} (hIL : ∀ c, c < nc → IL c ≤ 19) {z : zS} (hD : CD z.1 nc np ca bh cm (fun c => nI (IL c))) {x : Nat} (hx : x < 64) (K : Option Value → zH → Prop) : Cl E (d + 2) 18 [.ref 58, .int (nI x)] (HP z) K = K (some (.long (lN (wyX nc IL x)))) (HP z) := by
  have n1 : nc < 2 ^ 31 := by omega
  have loop := fun s => itr_eq (fun i b => Ev E (d + 2) zm_X1_waysOf 21 [some (.ref 58), some (.int (nI x)), some (.long (lN b)), none, some (.int (nI i))] [] (HP z) K) (fun c b => b * (if x.testBit c = true then 20 - IL c else IL c)) s nc (fun i hi => by
    generalize itr _ i _ = b
    have l := x_isWell E d hnc hD.1 (Or.inr ⟨i, hi, rfl⟩) x
    have r67 := ri_k i67 (show i < 6 by omega) (by decide) E z
    have h67 := hD.2.2.2.2.2 i hi
    have hI := hIL i hi
    dsimp only at h67
    rw [wl_n hnc hi] at l
    cases hb : x.testBit i with
    | false =>
      rw [hb] at l
      rw [e_X1_waysOf_21, if_neg (by decide), ← lN_mul, ← l19 _ (show IL i < 20 by omega)]
      simp only [↓e_X1_waysOf_5, ↓e_X1_waysOf_8, ↓e_X1_waysOf_12, ↓e_X1_waysOf_16, ↓e_X1_waysOf_17, ↓e_X1_waysOf_27, ↓e_X1_waysOf_30, ↓e_X1_waysOf_33, ↓e_X1_waysOf_41, ↓e_X1_waysOf_44, ↓e_X1_waysOf_50, ↓e_X1_waysOf_53, ↓e_X1_waysOf_56, ↓e_X1_waysOf_61, ↓e_X1_waysOf_65, ↓e_X1_waysOf_68, ↓e_X1_waysOf_71, ↓e_X1_waysOf_72, ↓e_X1_waysOf_80, g1 o1_58, g6 o6_59, v1 o1_58, Nat.reduceAdd, hD.1, nI_lt_iff (show i < 2 ^ 31 by omega) n1, hi, l, r67, h67, zps_s, bI_f, nI_1, zk_i, zk_r, zk_l, zk_n, ↓reduceIte]
    | true =>
      rw [hb] at l
      rw [e_X1_waysOf_21, if_pos rfl, ← lN_mul, ← l20 _ (show IL i < 20 by omega)]
      simp only [↓e_X1_waysOf_5, ↓e_X1_waysOf_8, ↓e_X1_waysOf_12, ↓e_X1_waysOf_16, ↓e_X1_waysOf_17, ↓e_X1_waysOf_27, ↓e_X1_waysOf_30, ↓e_X1_waysOf_33, ↓e_X1_waysOf_41, ↓e_X1_waysOf_44, ↓e_X1_waysOf_50, ↓e_X1_waysOf_53, ↓e_X1_waysOf_56, ↓e_X1_waysOf_61, ↓e_X1_waysOf_65, ↓e_X1_waysOf_68, ↓e_X1_waysOf_71, ↓e_X1_waysOf_72, ↓e_X1_waysOf_80, g1 o1_58, g6 o6_59, v1 o1_58, Nat.reduceAdd, hD.1, nI_lt_iff (show i < 2 ^ 31 by omega) n1, hi, l, r67, h67, zps_s, bI_t, i01, nI_1, zk_i, zk_r, zk_l, zk_n, ↓reduceIte])
  have fin : ∀ b, Ev E (d + 2) zm_X1_waysOf 21 [some (.ref 58), some (.int (nI x)), some (.long (lN b)), none, some (.int (nI nc))] [] (HP z) K = K (some (.long (lN b))) (HP z) := fun b => by
    rw [e_X1_waysOf_21]
    simp only [↓e_X1_waysOf_5, ↓e_X1_waysOf_8, ↓e_X1_waysOf_12, ↓e_X1_waysOf_16, ↓e_X1_waysOf_17, ↓e_X1_waysOf_27, ↓e_X1_waysOf_30, ↓e_X1_waysOf_33, ↓e_X1_waysOf_41, ↓e_X1_waysOf_44, ↓e_X1_waysOf_50, ↓e_X1_waysOf_53, ↓e_X1_waysOf_56, ↓e_X1_waysOf_61, ↓e_X1_waysOf_65, ↓e_X1_waysOf_68, ↓e_X1_waysOf_71, ↓e_X1_waysOf_72, ↓e_X1_waysOf_80, g1 o1_58, g6 o6_59, v1 o1_58, Nat.reduceAdd, hD.1, nI_lt_iff n1 n1, Nat.lt_irrefl, zk_i, zk_r, zk_l, zk_n, ↓reduceIte]
  have l0 := loop (if x < 2 ^ nc then 1 else 0)
  rw [fin, nI_0] at l0
  unfold wyX wyN
  rw [← l0]
  by_cases q : x < 2 ^ nc
  · have q2 : (nI x >>> (nI nc &&& 31) = 0) = True := eq_true ((sh_x x hx nc (by omega)).mpr q)
    rw [if_pos q]
    simp only [↓c_X1_waysOf, ↓e_X1_waysOf_0, ↓e_X1_waysOf_5, ↓e_X1_waysOf_8, ↓e_X1_waysOf_12, ↓e_X1_waysOf_16, ↓e_X1_waysOf_17, ↓e_X1_waysOf_27, ↓e_X1_waysOf_30, ↓e_X1_waysOf_33, ↓e_X1_waysOf_41, ↓e_X1_waysOf_44, ↓e_X1_waysOf_50, ↓e_X1_waysOf_53, ↓e_X1_waysOf_56, ↓e_X1_waysOf_61, ↓e_X1_waysOf_65, ↓e_X1_waysOf_68, ↓e_X1_waysOf_71, ↓e_X1_waysOf_72, ↓e_X1_waysOf_80, g1 o1_58, g6 o6_59, v1 o1_58, Nat.reduceAdd, hD.1, q2, zk_i, zk_r, zk_l, zk_n, ↓reduceIte]
    rfl
  · have q2 : (nI x >>> (nI nc &&& 31) = 0) = False := eq_false (fun h => q ((sh_x x hx nc (by omega)).mp h))
    rw [if_neg q]
    simp only [↓c_X1_waysOf, ↓e_X1_waysOf_0, ↓e_X1_waysOf_5, ↓e_X1_waysOf_8, ↓e_X1_waysOf_12, ↓e_X1_waysOf_16, ↓e_X1_waysOf_17, ↓e_X1_waysOf_27, ↓e_X1_waysOf_30, ↓e_X1_waysOf_33, ↓e_X1_waysOf_41, ↓e_X1_waysOf_44, ↓e_X1_waysOf_50, ↓e_X1_waysOf_53, ↓e_X1_waysOf_56, ↓e_X1_waysOf_61, ↓e_X1_waysOf_65, ↓e_X1_waysOf_68, ↓e_X1_waysOf_71, ↓e_X1_waysOf_72, ↓e_X1_waysOf_80, g1 o1_58, g6 o6_59, v1 o1_58, Nat.reduceAdd, hD.1, q2, zk_i, zk_r, zk_l, zk_n, ↓reduceIte]
    rfl
noncomputable def tmN (nc np : Nat) (cm ca bh : Nat → Int32) (il : Nat → Nat) (w : Nat → Bool) (y : Nat) : Nat := @ite Nat (gdP nc np cm ca bh w) (Classical.propDecidable _) y 0
theorem tm_le (nc np : Nat) (cm ca bh : Nat → Int32) (il : Nat → Nat) (w : Nat → Bool) (y : Nat) : tmN nc np cm ca bh il w y ≤ y := by
  unfold tmN
  split
  · exact Nat.le_refl y
  · exact Nat.zero_le y
/-- how often it goes, of all -/
noncomputable def odC (nc np : Nat) (cm ca bh : Nat → Int32) (il : Nat → Nat) (n : Nat) : Nat := itr (fun x s => s + tmN nc np cm ca bh il (fun c => x.testBit c) (wyX nc il x)) n 0
theorem od_le {nc : Nat} (hnc : nc ≤ 6) (np : Nat) (cm ca bh : Nat → Int32) {il : Nat → Nat} (h : ∀ c, c < nc → il c ≤ 19) (n : Nat) : odC nc np cm ca bh il n ≤ n * 20 ^ 6 := by
  unfold odC
  induction n with
  | zero => rw [itr_z]; omega
  | succ n ih =>
    rw [itr_s]
    have a := tm_le nc np cm ca bh il (fun c => n.testBit c) (wyX nc il n)
    have b := wyX_le hnc h n
    omega
set_option maxRecDepth 100000 in
theorem x_ways (E : zE) (d : Nat) {nc np : Nat} (hnc : nc ≤ 6) (hnp : np ≤ 6) {ca bh cm : Nat → Int32} {IL : Nat → Nat} (hIL : ∀ c, c < nc → IL c ≤ 19) (hca : ∀ p, p < np → orN (ca p) nc) (hbh : ∀ p, p < np → orN (bh p) nc) {f : Nat → Nat → Int32} {t : (Nat → Nat → Int64) × Nat} (hD : CD f nc np ca bh cm (fun c => nI (IL c))) (hw : ∀ x, x < 64 → t.1 75 x = lN (wyX nc IL x)) : Hr E (d + 3) 14 [.ref 58] (f, t) (fun v z' => v = some (.long (lN (odC nc np cm ca bh IL 64))) ∧ z'.2 = t ∧ ∀ a, a ≠ 74 → z'.1 a = f a) := by
  unfold Hr
  generalize hQ : (fun (v : Option Value) (h : zH) => ∃ z' : zS, h = HP z' ∧ (v = some (.long (lN (odC nc np cm ca bh IL 64))) ∧ z'.2 = t ∧ ∀ a, a ≠ 74 → z'.1 a = f a)) = Q
  have loop : ∀ k x (f' : Nat → Nat → Int32), x + k = 64 → (∀ a, a ≠ 74 → f' a = f a) → Ev E (d + 3) zm_X1_waysItGoes 4 [some (.ref 58), some (.long (lN (odC nc np cm ca bh IL x))), none, some (.int (nI x))] [] (HP (f', t)) Q := by
    intro k
    induction k with
    | zero =>
      intro x f' hxk hf
      have e : x = 64 := by omega
      subst e
      have q : Q (some (.long (lN (odC nc np cm ca bh IL 64)))) (HP (f', t)) := by
        rw [← hQ]
        exact ⟨(f', t), rfl, rfl, rfl, hf⟩
      rw [e_X1_waysItGoes_4]
      simp only [↓e_X1_waysItGoes_9, ↓e_X1_waysItGoes_10, ↓e_X1_waysItGoes_13, ↓e_X1_waysItGoes_17, ↓e_X1_waysItGoes_19, ↓e_X1_waysItGoes_24, ↓e_X1_waysItGoes_29, ↓e_X1_waysItGoes_32, ↓e_X1_waysItGoes_37, ↓e_X1_waysItGoes_39, ↓e_X1_waysItGoes_41, ↓e_X1_waysItGoes_47, g1 o1_58, Nat.reduceAdd, HP_alL L75, nI_lt_iff (show 64 < 2 ^ 31 by decide) (show 64 < 2 ^ 31 by decide), Nat.lt_irrefl, zk_i, zk_r, zk_l, zk_n, ↓reduceIte]
      exact q
    | succ k ihk =>
      intro x f' hxk hf
      have hx : x < 64 := by omega
      have r75 := rl_k L75 hx (by decide) (f', t)
      have h75 := hw x hx
      have wb := wyX_le hnc hIL x
      have wp := lN_pos (a := wyX nc IL x) (by omega)
      have step : odC nc np cm ca bh IL (x + 1) = odC nc np cm ca bh IL x + tmN nc np cm ca bh IL (fun c => x.testBit c) (wyX nc IL x) := by
        unfold odC
        rw [itr_s]
      by_cases p : 0 < wyX nc IL x
      · obtain ⟨v, z1, ⟨e1, e2, b, e3, e4⟩, hk⟩ := Hr_use (x_goes E d hnc hnp hca hbh (t := t) (CD_c hf hD) x)
        obtain ⟨f1, t1⟩ := z1
        dsimp only at e1 e2
        subst e1
        have nx := ihk (x + 1) f1 (by omega) (fun a ha => by rw [e2 a ha, hf a ha])
        rw [step] at nx
        have r75' := rl_k L75 hx (by decide) (f1, t1)
        cases b with
        | false =>
          have z0 : tmN nc np cm ca bh IL (fun c => x.testBit c) (wyX nc IL x) = 0 := by
            unfold tmN
            rw [if_neg (fun h => absurd (e4.mpr h) (by decide))]
          rw [z0, Nat.add_zero] at nx
          subst e3
          rw [e_X1_waysItGoes_4]
          simp only [↓e_X1_waysItGoes_9, ↓e_X1_waysItGoes_10, ↓e_X1_waysItGoes_13, ↓e_X1_waysItGoes_17, ↓e_X1_waysItGoes_19, ↓e_X1_waysItGoes_24, ↓e_X1_waysItGoes_29, ↓e_X1_waysItGoes_32, ↓e_X1_waysItGoes_37, ↓e_X1_waysItGoes_39, ↓e_X1_waysItGoes_41, ↓e_X1_waysItGoes_47, g1 o1_58, v1 o1_58, Nat.reduceAdd, HP_alL L75, nI_lt_iff (show x < 2 ^ 31 by omega) (show 64 < 2 ^ 31 by decide), hx, r75, h75, wp, p, hk, zps_s, bI_f, nI_1, zk_i, zk_r, zk_l, zk_n, ↓reduceIte]
          exact nx
        | true =>
          have z0 : tmN nc np cm ca bh IL (fun c => x.testBit c) (wyX nc IL x) = wyX nc IL x := by
            unfold tmN
            rw [if_pos (e4.mp rfl)]
          rw [z0, ← lN_add] at nx
          subst e3
          rw [e_X1_waysItGoes_4]
          simp only [↓e_X1_waysItGoes_9, ↓e_X1_waysItGoes_10, ↓e_X1_waysItGoes_13, ↓e_X1_waysItGoes_17, ↓e_X1_waysItGoes_19, ↓e_X1_waysItGoes_24, ↓e_X1_waysItGoes_29, ↓e_X1_waysItGoes_32, ↓e_X1_waysItGoes_37, ↓e_X1_waysItGoes_39, ↓e_X1_waysItGoes_41, ↓e_X1_waysItGoes_47, g1 o1_58, v1 o1_58, Nat.reduceAdd, HP_alL L75, nI_lt_iff (show x < 2 ^ 31 by omega) (show 64 < 2 ^ 31 by decide), hx, r75, r75', h75, wp, p, hk, zps_s, bI_t, i01, nI_1, zk_i, zk_r, zk_l, zk_n, ↓reduceIte]
          exact nx
      · have nx := ihk (x + 1) f' (by omega) hf
        have z0 : tmN nc np cm ca bh IL (fun c => x.testBit c) (wyX nc IL x) = 0 := by
          have := tm_le nc np cm ca bh IL (fun c => x.testBit c) (wyX nc IL x)
          omega
        rw [step, z0, Nat.add_zero] at nx
        rw [e_X1_waysItGoes_4]
        simp only [↓e_X1_waysItGoes_9, ↓e_X1_waysItGoes_10, ↓e_X1_waysItGoes_13, ↓e_X1_waysItGoes_17, ↓e_X1_waysItGoes_19, ↓e_X1_waysItGoes_24, ↓e_X1_waysItGoes_29, ↓e_X1_waysItGoes_32, ↓e_X1_waysItGoes_37, ↓e_X1_waysItGoes_39, ↓e_X1_waysItGoes_41, ↓e_X1_waysItGoes_47, g1 o1_58, v1 o1_58, Nat.reduceAdd, HP_alL L75, nI_lt_iff (show x < 2 ^ 31 by omega) (show 64 < 2 ^ 31 by decide), hx, r75, h75, wp, p, nI_1, zk_i, zk_r, zk_l, zk_n, ↓reduceIte]
        exact nx
  have start := loop 64 0 f (by omega) (fun _ _ => rfl)
  rw [nI_0] at start
  simp only [↓c_X1_waysItGoes, ↓e_X1_waysItGoes_0, ↓e_X1_waysItGoes_9, ↓e_X1_waysItGoes_10, ↓e_X1_waysItGoes_13, ↓e_X1_waysItGoes_17, ↓e_X1_waysItGoes_19, ↓e_X1_waysItGoes_24, ↓e_X1_waysItGoes_29, ↓e_X1_waysItGoes_32, ↓e_X1_waysItGoes_37, ↓e_X1_waysItGoes_39, ↓e_X1_waysItGoes_41, ↓e_X1_waysItGoes_47, zk_i, zk_r, zk_n]
  exact start
