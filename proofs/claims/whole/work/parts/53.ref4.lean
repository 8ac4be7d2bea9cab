/-! the reference: clashes, who sits -/
theorem itr_ex {σ τ : Type} (W : Nat → σ → τ → Prop) (f : Nat → σ → σ) (s : σ) (n : Nat) (hs : ∀ i x, i < n → ∃ x', W i (itr f i s) x = W (i + 1) (f i (itr f i s)) x') (x : τ) : ∃ x', W 0 s x = W n (itr f n s) x' := by
  have h : ∀ k, k ≤ n → ∃ x', W 0 s x = W k (itr f k s) x' := by
    intro k
    induction k with
    | zero => exact fun _ => ⟨x, rfl⟩
    | succ k ih =>
      intro hk
      obtain ⟨x1, h1⟩ := ih (by omega)
      obtain ⟨x2, h2⟩ := hs k x1 (by omega)
      exact ⟨x2, h1.trans h2⟩
  exact h n (Nat.le_refl n)
theorem xI_sub {a b : Nat} (h : b ≤ a) : nI a - nI b = nI (a - b) := by
  have e : nI a = nI (a - b) + nI b := by
    rw [nI_add, Nat.sub_add_cancel h]
  rw [e, Int32.add_sub_cancel]
def hasF (z : zS) (c m : Int32) (i : Nat) (b : Bool) : Bool := b || (decide (z.1 130 (18 + i) = c) && bitC m (nI i))
theorem m_has (E : zE) (d : Nat) (c m : Int32) {n : Nat} (hn : n ≤ 6) {z : zS} (hz : z.1 130 104 = nI n) (K : Option Value → zH → Prop) : Cl E d 172 [.ref 129, .int c, .int m] (HP z) K = K (some (.int (bI (itr (hasF z c m) n false)))) (HP z) := by
  have hn' : n < 2 ^ 31 := by omega
  have loop := itr_eq (fun i b => Ev E d zm_X9_has 5 [some (.ref 129), some (.int c), some (.int m), some (.int (bI b)), some (.int (nI i))] [] (HP z) K) (hasF z c m) false n (fun i hi => by
    generalize itr _ i _ = b
    have e : (18 : Int32) + nI i = nI (18 + i) := nI_add 18 i
    rw [e_X9_has_5]
    simp only [↓e_X9_has_11, ↓e_X9_has_14, ↓e_X9_has_17, ↓e_X9_has_21, ↓e_X9_has_25, ↓e_X9_has_31, ↓e_X9_has_35, ↓e_X9_has_45, ↓e_X9_has_49, ↓e_X9_has_50, ↓e_X9_has_57, g9 o9_129, Nat.reduceAdd, stL, e, st_k (show 18 + i < 1083 by omega), hz, bI_0, zk_i, zk_r, zk_l, zk_n, nI_lt_iff (show i < 2 ^ 31 by omega) hn', hi, ↓reduceIte, nI_1, hasF, bitC]
    cases b
    · by_cases h1 : z.1 130 (18 + i) = c
      · by_cases h2 : m >>> (nI i &&& 31) &&& 1 = 1 <;> simp [h1, h2, bI]
      · simp [h1, bI]
    · simp [bI])
  simp only [↓c_X9_has, ↓e_X9_has_0, ↓e_X9_has_11, ↓e_X9_has_14, ↓e_X9_has_17, ↓e_X9_has_21, ↓e_X9_has_25, ↓e_X9_has_31, ↓e_X9_has_35, ↓e_X9_has_45, ↓e_X9_has_49, ↓e_X9_has_50, ↓e_X9_has_57, zk_i, zk_r, zk_l, zk_n]
  rw [nI_0, bI_f] at loop
  rw [loop, e_X9_has_5]
  simp only [↓e_X9_has_11, ↓e_X9_has_14, ↓e_X9_has_17, ↓e_X9_has_21, ↓e_X9_has_25, ↓e_X9_has_31, ↓e_X9_has_35, ↓e_X9_has_45, ↓e_X9_has_49, ↓e_X9_has_50, ↓e_X9_has_57, g9 o9_129, Nat.reduceAdd, stL, hz, nI_lt_iff hn' hn', Nat.lt_irrefl, ↓reduceIte, bI_01, true_and]
def sitB (z : zS) (n s : Nat) (c : Int32) : Bool := itr (hasF z c 63) n false && !itr (hasF z c (z.1 130 (90 + 2 * s + 1))) n false
theorem m_sits (E : zE) (d : Nat) (c : Int32) {n s : Nat} (hn : n ≤ 6) (hs : s < 7) {z : zS} (hz : z.1 130 104 = nI n) (K : Option Value → zH → Prop) : Cl E (d + 1) 173 [.ref 129, .int c, .int (nI s)] (HP z) K = K (some (.int (bI (sitB z n s c)))) (HP z) := by
  have e : (90 + (2 * nI s)) + 1 = nI (90 + 2 * s + 1) := by
    rw [show (90 : Int32) = nI 90 from by decide, show (2 : Int32) = nI 2 from by decide, nI_mul, nI_add, nI_1]
  simp only [↓c_X9_sits, ↓e_X9_sits_0, ↓e_X9_sits_7, ↓e_X9_sits_10, ↓e_X9_sits_16, ↓e_X9_sits_25, ↓e_X9_sits_28, ↓e_X9_sits_31, ↓e_X9_sits_35, ↓e_X9_sits_36, g9 o9_129, v9 o9_129, Nat.reduceAdd, e, st_k (show 90 + 2 * s + 1 < 1083 by omega), m_has E d _ _ hn hz, zps_s, bI_0, zk_i, zk_r, zk_n, sitB]
  cases itr (hasF z c 63) n false
  · simp [bI]
  · cases itr (hasF z c (z.1 130 (90 + 2 * s + 1))) n false <;> simp [bI]
def ccF (z : zS) (a b : Int32) (ch i j : Nat) (r : Bool) : Bool := r || (bitC (z.1 130 (90 + 2 * i + 1)) a && bitC (z.1 130 (90 + 2 * j + 1)) b && decide ((if i < j then j - i else i - j) ≤ ch))
def ccB (z : zS) (ns ch : Nat) (a b : Int32) : Bool := itr (fun i r => itr (ccF z a b ch i) ns r) ns false
theorem cc_in (E : zE) (d : Nat) (a b : Int32) {n ch i : Nat} (hn : n ≤ 7) (hi : i < n) (hch : ch ≤ 3) {z : zS} (hz : z.1 130 106 = nI n) (hc : z.1 130 107 = nI ch) (r : Bool) (x : Option Value) (K : Option Value → zH → Prop) : ∃ x', Ev E (d + 1) zm_X9_clashes 20 [some (.ref 129), some (.int a), some (.int b), some (.int (bI r)), some (.int (nI i)), some (.int 0), x] [] (HP z) K = Ev E (d + 1) zm_X9_clashes 20 [some (.ref 129), some (.int a), some (.int b), some (.int (bI (itr (ccF z a b ch i) n r))), some (.int (nI i)), some (.int (nI n)), x'] [] (HP z) K := by
  have hn' : n < 2 ^ 31 := by omega
  have h := itr_ex (fun j r x => Ev E (d + 1) zm_X9_clashes 20 [some (.ref 129), some (.int a), some (.int b), some (.int (bI r)), some (.int (nI i)), some (.int (nI j)), x] [] (HP z) K) (ccF z a b ch i) r n (fun j x hj => by
    generalize itr _ j _ = r
    rw [e_X9_clashes_20]
    simp only [↓e_X9_clashes_11, ↓e_X9_clashes_14, ↓e_X9_clashes_17, ↓e_X9_clashes_26, ↓e_X9_clashes_29, ↓e_X9_clashes_32, ↓e_X9_clashes_39, ↓e_X9_clashes_47, ↓e_X9_clashes_52, ↓e_X9_clashes_58, ↓e_X9_clashes_65, ↓e_X9_clashes_68, ↓e_X9_clashes_75, ↓e_X9_clashes_78, ↓e_X9_clashes_84, ↓e_X9_clashes_87, ↓e_X9_clashes_90, ↓e_X9_clashes_94, ↓e_X9_clashes_95, ↓e_X9_clashes_102, ↓e_X9_clashes_108, g9 o9_129, v9 o9_129, Nat.reduceAdd, stL, hz, hc, m_isIn E d _ (show i < 7 by omega), m_isIn E d _ (show j < 7 by omega), zps_s, bI_0, zk_i, zk_r, zk_l, zk_n, nI_lt_iff (show j < 2 ^ 31 by omega) hn', nI_lt_iff (show i < 2 ^ 31 by omega) (show j < 2 ^ 31 by omega), hj, ↓reduceIte, nI_1, ccF]
    by_cases hij : i < j
    · simp only [hij, ↓reduceIte, xI_sub (show i ≤ j by omega), nI_lt_iff (show ch < 2 ^ 31 by omega) (show j - i < 2 ^ 31 by omega)]
      refine ⟨some (.int (nI (j - i))), ?_⟩
      by_cases hle : ch < j - i <;> cases r <;> cases bitC (z.1 130 (90 + 2 * i + 1)) a <;> cases bitC (z.1 130 (90 + 2 * j + 1)) b <;> simp [hle, bI, Nat.not_le.mpr, Nat.not_lt.mp]
    · simp only [hij, ↓reduceIte, xI_sub (show j ≤ i by omega), nI_lt_iff (show ch < 2 ^ 31 by omega) (show i - j < 2 ^ 31 by omega)]
      refine ⟨some (.int (nI (i - j))), ?_⟩
      by_cases hle : ch < i - j <;> cases r <;> cases bitC (z.1 130 (90 + 2 * i + 1)) a <;> cases bitC (z.1 130 (90 + 2 * j + 1)) b <;> simp [hle, bI, Nat.not_le.mpr, Nat.not_lt.mp]) x
  rw [nI_0] at h
  exact h
theorem m_clashes (E : zE) (d : Nat) (a b : Int32) {n ch : Nat} (hn : n ≤ 7) (hch : ch ≤ 3) {z : zS} (hz : z.1 130 106 = nI n) (hc : z.1 130 107 = nI ch) (K : Option Value → zH → Prop) : Cl E (d + 1) 157 [.ref 129, .int a, .int b] (HP z) K = K (some (.int (bI (ccB z n ch a b)))) (HP z) := by
  have hn' : n < 2 ^ 31 := by omega
  have loop := itr_junk (τ := Option Value × Option Value) (fun i r x => Ev E (d + 1) zm_X9_clashes 5 [some (.ref 129), some (.int a), some (.int b), some (.int (bI r)), some (.int (nI i)), x.1, x.2] [] (HP z) K) (fun i r => itr (ccF z a b ch i) n r) false (R := K (some (.int (bI (ccB z n ch a b)))) (HP z)) n (fun i x hi => by
    generalize itr _ i _ = r
    obtain ⟨x', h'⟩ := cc_in E d a b hn hi hch hz hc r x.2 K
    refine ⟨(some (.int (nI n)), x'), ?_⟩
    rw [e_X9_clashes_5]
    simp only [↓e_X9_clashes_11, ↓e_X9_clashes_14, ↓e_X9_clashes_17, ↓e_X9_clashes_26, ↓e_X9_clashes_29, ↓e_X9_clashes_32, ↓e_X9_clashes_39, ↓e_X9_clashes_47, ↓e_X9_clashes_52, ↓e_X9_clashes_58, ↓e_X9_clashes_65, ↓e_X9_clashes_68, ↓e_X9_clashes_75, ↓e_X9_clashes_78, ↓e_X9_clashes_84, ↓e_X9_clashes_87, ↓e_X9_clashes_90, ↓e_X9_clashes_94, ↓e_X9_clashes_95, ↓e_X9_clashes_102, ↓e_X9_clashes_108, g9 o9_129, Nat.reduceAdd, stL, hz, zk_i, zk_r, nI_lt_iff (show i < 2 ^ 31 by omega) hn', hi, ↓reduceIte]
    rw [h', e_X9_clashes_20]
    simp only [↓e_X9_clashes_11, ↓e_X9_clashes_14, ↓e_X9_clashes_17, ↓e_X9_clashes_26, ↓e_X9_clashes_29, ↓e_X9_clashes_32, ↓e_X9_clashes_39, ↓e_X9_clashes_47, ↓e_X9_clashes_52, ↓e_X9_clashes_58, ↓e_X9_clashes_65, ↓e_X9_clashes_68, ↓e_X9_clashes_75, ↓e_X9_clashes_78, ↓e_X9_clashes_84, ↓e_X9_clashes_87, ↓e_X9_clashes_90, ↓e_X9_clashes_94, ↓e_X9_clashes_95, ↓e_X9_clashes_102, ↓e_X9_clashes_108, g9 o9_129, Nat.reduceAdd, stL, hz, zk_i, zk_r, nI_lt_iff hn' hn', Nat.lt_irrefl, ↓reduceIte, nI_1]) (fun x => by
    rw [e_X9_clashes_5]
    simp only [↓e_X9_clashes_11, ↓e_X9_clashes_14, ↓e_X9_clashes_17, ↓e_X9_clashes_26, ↓e_X9_clashes_29, ↓e_X9_clashes_32, ↓e_X9_clashes_39, ↓e_X9_clashes_47, ↓e_X9_clashes_52, ↓e_X9_clashes_58, ↓e_X9_clashes_65, ↓e_X9_clashes_68, ↓e_X9_clashes_75, ↓e_X9_clashes_78, ↓e_X9_clashes_84, ↓e_X9_clashes_87, ↓e_X9_clashes_90, ↓e_X9_clashes_94, ↓e_X9_clashes_95, ↓e_X9_clashes_102, ↓e_X9_clashes_108, g9 o9_129, Nat.reduceAdd, stL, hz, nI_lt_iff hn' hn', Nat.lt_irrefl, ↓reduceIte, bI_01, true_and, ccB]) (none, none)
  simp only [↓c_X9_clashes, ↓e_X9_clashes_0, ↓e_X9_clashes_11, ↓e_X9_clashes_14, ↓e_X9_clashes_17, ↓e_X9_clashes_26, ↓e_X9_clashes_29, ↓e_X9_clashes_32, ↓e_X9_clashes_39, ↓e_X9_clashes_47, ↓e_X9_clashes_52, ↓e_X9_clashes_58, ↓e_X9_clashes_65, ↓e_X9_clashes_68, ↓e_X9_clashes_75, ↓e_X9_clashes_78, ↓e_X9_clashes_84, ↓e_X9_clashes_87, ↓e_X9_clashes_90, ↓e_X9_clashes_94, ↓e_X9_clashes_95, ↓e_X9_clashes_102, ↓e_X9_clashes_108, zk_i, zk_r, zk_n]
  rw [nI_0, bI_f] at loop
  exact loop
def lcrow (z : zS) (np ns ch a : Nat) : Int32 := itr (fun b x => x ||| (if a ≠ b ∧ ccB z ns ch (nI a) (nI b) = true then 1 <<< (nI b &&& 31) else 0)) np 0
theorem ccB_c {z z' : zS} (h : z.1 130 = z'.1 130) (ns ch : Nat) (a b : Int32) : ccB z ns ch a b = ccB z' ns ch a b := by
  unfold ccB ccF
  rw [h]
