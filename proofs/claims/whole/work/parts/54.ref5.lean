/-! the reference: layClashes, leanOf, fitOf -/
theorem m_layClashes (E : zE) (d : Nat) {np ns ch : Nat} (hnp : np ≤ 6) (hns : ns ≤ 7) (hch : ch ≤ 3) {z : zS} (hp : z.1 130 104 = nI np) (hs : z.1 130 106 = nI ns) (hc : z.1 130 107 = nI ch) (K : Option Value → zH → Prop) : Cl E (d + 2) 159 [.ref 129] (HP z) K = K none (HP (setR z.1 134 (itr (fun a g => upd g a (lcrow z np ns ch a)) np (z.1 134)), z.2)) := by
  have hn' : np < 2 ^ 31 := by omega
  have h1 : (130 : Nat) ≠ 134 := by decide
  have hcl : ∀ (g : Nat → Int32) (a b : Int32) (K : Option Value → zH → Prop), Cl E (d + 1) 157 [.ref 129, .int a, .int b] (HP (setR z.1 134 g, z.2)) K = K (some (.int (bI (ccB z ns ch a b)))) (HP (setR z.1 134 g, z.2)) := fun g a b K => by
    rw [m_clashes E d a b hns hch (z := (setR z.1 134 g, z.2)) (by simp only [setR_n h1]; exact hs) (by simp only [setR_n h1]; exact hc) K, ccB_c (z := (setR z.1 134 g, z.2)) (z' := z) (setR_n h1 z.1 g)]
  have inner : ∀ (a : Nat) (g : Nat → Int32), a < np → Ev E (d + 2) zm_X9_layClashes 22 [some (.ref 129), some (.int (nI a)), some (.int 0)] [] (HP (setR z.1 134 (upd g a 0), z.2)) K = Ev E (d + 2) zm_X9_layClashes 2 [some (.ref 129), some (.int (nI (a + 1))), some (.int (nI np))] [] (HP (setR z.1 134 (upd g a (lcrow z np ns ch a)), z.2)) K := by
    intro a g ha
    have loop := itr_eq (fun b x => Ev E (d + 2) zm_X9_layClashes 22 [some (.ref 129), some (.int (nI a)), some (.int (nI b))] [] (HP (setR z.1 134 (upd g a x), z.2)) K) (fun b x => x ||| (if a ≠ b ∧ ccB z ns ch (nI a) (nI b) = true then 1 <<< (nI b &&& 31) else 0)) 0 np (fun b hb => by
      generalize itr _ b _ = x
      rw [e_X9_layClashes_22]
      simp only [↓e_X9_layClashes_7, ↓e_X9_layClashes_10, ↓e_X9_layClashes_13, ↓e_X9_layClashes_17, ↓e_X9_layClashes_20, ↓e_X9_layClashes_27, ↓e_X9_layClashes_30, ↓e_X9_layClashes_33, ↓e_X9_layClashes_37, ↓e_X9_layClashes_40, ↓e_X9_layClashes_45, ↓e_X9_layClashes_51, ↓e_X9_layClashes_54, ↓e_X9_layClashes_60, ↓e_X9_layClashes_61, ↓e_X9_layClashes_63, ↓e_X9_layClashes_69, ↓e_X9_layClashes_75, g9 o9_129, v9 o9_129, Nat.reduceAdd, stL, hcl, HP_ri i134, HP_wi i134, zps_s, bI_0, zk_i, zk_r, setR_n h1, setR_s, setR_2, set2_R, upd_s, upd_2, hp, nI_lt_iff (show b < 2 ^ 31 by omega) hn', hb, ↓reduceIte, nI_1, nI_cl (show a < 2 ^ 31 by omega), in_nI (show a < 6 by omega) (by decide), true_and, nI_eq (show a < 2 ^ 31 by omega) (show b < 2 ^ 31 by omega)]
      by_cases hab : a = b
      · simp [hab]
      · cases ccB z ns ch (nI a) (nI b) <;> simp [hab])
    rw [nI_0] at loop
    rw [loop, e_X9_layClashes_22]
    simp only [↓e_X9_layClashes_7, ↓e_X9_layClashes_10, ↓e_X9_layClashes_13, ↓e_X9_layClashes_17, ↓e_X9_layClashes_20, ↓e_X9_layClashes_27, ↓e_X9_layClashes_30, ↓e_X9_layClashes_33, ↓e_X9_layClashes_37, ↓e_X9_layClashes_40, ↓e_X9_layClashes_45, ↓e_X9_layClashes_51, ↓e_X9_layClashes_54, ↓e_X9_layClashes_60, ↓e_X9_layClashes_61, ↓e_X9_layClashes_63, ↓e_X9_layClashes_69, ↓e_X9_layClashes_75, g9 o9_129, Nat.reduceAdd, stL, zk_i, zk_r, setR_n h1, hp, nI_lt_iff hn' hn', Nat.lt_irrefl, ↓reduceIte, nI_1, lcrow]
  have outer := itr_eq (fun a (g : (Nat → Int32) × Option Value) => Ev E (d + 2) zm_X9_layClashes 2 [some (.ref 129), some (.int (nI a)), g.2] [] (HP (setR z.1 134 g.1, z.2)) K) (fun a g => (upd g.1 a (lcrow z np ns ch a), some (.int (nI np)))) (z.1 134, none) np (fun a ha => by
    generalize itr _ a _ = g
    rw [e_X9_layClashes_2]
    simp only [↓e_X9_layClashes_7, ↓e_X9_layClashes_10, ↓e_X9_layClashes_13, ↓e_X9_layClashes_17, ↓e_X9_layClashes_20, ↓e_X9_layClashes_27, ↓e_X9_layClashes_30, ↓e_X9_layClashes_33, ↓e_X9_layClashes_37, ↓e_X9_layClashes_40, ↓e_X9_layClashes_45, ↓e_X9_layClashes_51, ↓e_X9_layClashes_54, ↓e_X9_layClashes_60, ↓e_X9_layClashes_61, ↓e_X9_layClashes_63, ↓e_X9_layClashes_69, ↓e_X9_layClashes_75, g9 o9_129, Nat.reduceAdd, stL, HP_wi i134, zk_i, zk_r, setR_n h1, setR_s, setR_2, set2_R, hp, nI_lt_iff (show a < 2 ^ 31 by omega) hn', ha, ↓reduceIte, nI_cl (show a < 2 ^ 31 by omega), in_nI (show a < 6 by omega) (by decide), true_and]
    exact inner a g.1 ha)
  have hfst : ∀ n, (itr (fun a (g : (Nat → Int32) × Option Value) => (upd g.1 a (lcrow z np ns ch a), some (Value.int (nI np)))) n (z.1 134, none)).1 = itr (fun a g => upd g a (lcrow z np ns ch a)) n (z.1 134) := by
    intro n
    induction n with
    | zero => rfl
    | succ n ih =>
      simp only [itr, ih]
  simp only [↓c_X9_layClashes, ↓e_X9_layClashes_0, ↓e_X9_layClashes_7, ↓e_X9_layClashes_10, ↓e_X9_layClashes_13, ↓e_X9_layClashes_17, ↓e_X9_layClashes_20, ↓e_X9_layClashes_22, ↓e_X9_layClashes_27, ↓e_X9_layClashes_30, ↓e_X9_layClashes_33, ↓e_X9_layClashes_37, ↓e_X9_layClashes_40, ↓e_X9_layClashes_45, ↓e_X9_layClashes_51, ↓e_X9_layClashes_54, ↓e_X9_layClashes_60, ↓e_X9_layClashes_61, ↓e_X9_layClashes_63, ↓e_X9_layClashes_69, ↓e_X9_layClashes_75, zk_i, zk_r, zk_n]
  rw [nI_0] at outer
  simp only [setR_id] at outer
  rw [outer, e_X9_layClashes_2]
  simp only [↓e_X9_layClashes_7, ↓e_X9_layClashes_10, ↓e_X9_layClashes_13, ↓e_X9_layClashes_17, ↓e_X9_layClashes_20, ↓e_X9_layClashes_27, ↓e_X9_layClashes_30, ↓e_X9_layClashes_33, ↓e_X9_layClashes_37, ↓e_X9_layClashes_40, ↓e_X9_layClashes_45, ↓e_X9_layClashes_51, ↓e_X9_layClashes_54, ↓e_X9_layClashes_60, ↓e_X9_layClashes_61, ↓e_X9_layClashes_63, ↓e_X9_layClashes_69, ↓e_X9_layClashes_75, g9 o9_129, Nat.reduceAdd, stL, setR_n h1, hp, nI_lt_iff hn' hn', Nat.lt_irrefl, ↓reduceIte, hfst]
def lwF (z : zS) (w : Int32) (i : Nat) : Int64 := if w = 2 then 5 else if (decide (w = 1) == decide (z.1 130 (110 + i) = 1)) = true then 8 else 2
theorem m_leanOf (E : zE) (d : Nat) (w : Int32) {n : Nat} (hn : n ≤ 10) {z : zS} (hz : z.1 130 109 = nI n) (K : Option Value → zH → Prop) : Cl E d 211 [.ref 129, .int w] (HP z) K = K (some (.long (itr (fun i b => b * lwF z w i) n 1))) (HP z) := by
  have hn' : n < 2 ^ 31 := by omega
  have loop := itr_junk (τ := Option Value) (fun i b x => Ev E d zm_X9_leanOf 5 [some (.ref 129), some (.int w), some (.long b), none, some (.int (nI i)), x] [] (HP z) K) (fun i b => b * lwF z w i) 1 (R := K (some (.long (itr (fun i b => b * lwF z w i) n 1))) (HP z)) n (fun i x hi => by
    generalize itr _ i _ = b
    have e : (110 : Int32) + nI i = nI (110 + i) := nI_add 110 i
    have t10 : ((1 : Int32) = 0) = False := by decide
    have t01 : ((0 : Int32) = 1) = False := by decide
    have t12 : ((1 : Int32) = 2) = False := by decide
    rw [e_X9_leanOf_5]
    simp only [↓e_X9_leanOf_11, ↓e_X9_leanOf_14, ↓e_X9_leanOf_17, ↓e_X9_leanOf_21, ↓e_X9_leanOf_27, ↓e_X9_leanOf_31, ↓e_X9_leanOf_35, ↓e_X9_leanOf_36, ↓e_X9_leanOf_44, ↓e_X9_leanOf_50, ↓e_X9_leanOf_55, ↓e_X9_leanOf_59, ↓e_X9_leanOf_60, ↓e_X9_leanOf_65, ↓e_X9_leanOf_71, ↓e_X9_leanOf_74, ↓e_X9_leanOf_82, g9 o9_129, Nat.reduceAdd, stL, e, st_k (show 110 + i < 1083 by omega), hz, zk_i, zk_r, zk_l, zk_n, nI_lt_iff (show i < 2 ^ 31 by omega) hn', hi, ↓reduceIte, nI_1, lwF]
    by_cases hv : z.1 130 (110 + i) = 1
    · refine ⟨some (.int 1), ?_⟩
      by_cases h2 : w = 2
      · simp [hv, h2]
      · by_cases h1 : w = 1 <;> simp [hv, h2, h1, t01, t12]
    · refine ⟨some (.int 0), ?_⟩
      by_cases h2 : w = 2
      · simp [hv, h2]
      · by_cases h1 : w = 1 <;> simp [hv, h2, h1, t10, t12]) (fun x => by
    rw [e_X9_leanOf_5]
    simp only [↓e_X9_leanOf_11, ↓e_X9_leanOf_14, ↓e_X9_leanOf_17, ↓e_X9_leanOf_21, ↓e_X9_leanOf_27, ↓e_X9_leanOf_31, ↓e_X9_leanOf_35, ↓e_X9_leanOf_36, ↓e_X9_leanOf_44, ↓e_X9_leanOf_50, ↓e_X9_leanOf_55, ↓e_X9_leanOf_59, ↓e_X9_leanOf_60, ↓e_X9_leanOf_65, ↓e_X9_leanOf_71, ↓e_X9_leanOf_74, ↓e_X9_leanOf_82, g9 o9_129, Nat.reduceAdd, stL, hz, nI_lt_iff hn' hn', Nat.lt_irrefl, ↓reduceIte]) none
  simp only [↓c_X9_leanOf, ↓e_X9_leanOf_0, ↓e_X9_leanOf_11, ↓e_X9_leanOf_14, ↓e_X9_leanOf_17, ↓e_X9_leanOf_21, ↓e_X9_leanOf_27, ↓e_X9_leanOf_31, ↓e_X9_leanOf_35, ↓e_X9_leanOf_36, ↓e_X9_leanOf_44, ↓e_X9_leanOf_50, ↓e_X9_leanOf_55, ↓e_X9_leanOf_59, ↓e_X9_leanOf_60, ↓e_X9_leanOf_65, ↓e_X9_leanOf_71, ↓e_X9_leanOf_74, ↓e_X9_leanOf_82, zk_i, zk_r, zk_l, zk_n]
  rw [nI_0] at loop
  exact loop
def fitG (kind voice need learn dread rk : Int32) : Int32 :=
  let wished := 6 - 2 * rk
  let far := if voice < need then need - voice else voice - need
  let plain := 10 - far + wished
  let large := if plain + learn - dread < 0 then 0 else plain + learn - dread
  let small := if plain < 5 then 5 else plain
  if kind = 0 then plain else if kind = 1 then plain + wished else if kind = 2 then large else if kind = 3 then small else if kind = 4 then small / 2 else if kind = 5 then small + dread else large / 2
def fitM (z : zS) (c p : Nat) : Int32 := fitG (z.1 130 (3 * p)) (z.1 130 (36 + 5 * c + 2)) (z.1 130 (3 * p + 2)) (z.1 130 (36 + 5 * c + 0)) (z.1 130 (36 + 5 * c + 3)) (rkF (z.1 130 (66 + 3 * c)) (z.1 130 (66 + 3 * c + 1)) (z.1 130 (66 + 3 * c + 2)) (nI p))
theorem m_fitOf (E : zE) (d : Nat) {c p : Nat} (hc : c < 6) (hp : p < 6) (z : zS) (K : Option Value → zH → Prop) : Cl E (d + 1) 154 [.ref 129, .int (nI c), .int (nI p)] (HP z) K = K (some (.int (fitM z c p))) (HP z) := by
  have e0 : (0 : Int32) + 3 * nI p = nI (3 * p) := by
    rw [show (0 : Int32) = nI 0 from by decide, show (3 : Int32) = nI 3 from by decide, nI_mul, nI_add, Nat.zero_add]
  have e2 : nI (3 * p) + 2 = nI (3 * p + 2) := nI_add _ 2
  have o0 := m_of E d hc (show 0 < 5 by decide) z
  have o2 := m_of E d hc (show 2 < 5 by decide) z
  have o3 := m_of E d hc (show 3 < 5 by decide) z
  rw [show nI 0 = 0 from by decide] at o0
  rw [show nI 2 = 2 from by decide] at o2
  rw [show nI 3 = 3 from by decide] at o3
  have h20 : (¬ (2 : Int32) = 0) = True := by decide
  simp only [↓c_X9_fitOf, ↓e_X9_fitOf_0, ↓e_X9_fitOf_4, ↓e_X9_fitOf_12, ↓e_X9_fitOf_19, ↓e_X9_fitOf_23, ↓e_X9_fitOf_30, ↓e_X9_fitOf_34, ↓e_X9_fitOf_40, ↓e_X9_fitOf_42, ↓e_X9_fitOf_53, ↓e_X9_fitOf_75, ↓e_X9_fitOf_82, ↓e_X9_fitOf_90, ↓e_X9_fitOf_94, ↓e_X9_fitOf_96, ↓e_X9_fitOf_104, ↓e_X9_fitOf_108, ↓e_X9_fitOf_110, ↓e_X9_fitOf_116, ↓e_X9_fitOf_122, ↓e_X9_fitOf_160, ↓e_X9_fitOf_163, ↓e_X9_fitOf_169, ↓e_X9_fitOf_172, ↓e_X9_fitOf_175, ↓e_X9_fitOf_179, ↓e_X9_fitOf_180, ↓e_X9_fitOf_188, ↓e_X9_fitOf_190, ↓e_X9_fitOf_194, g9 o9_129, v9 o9_129, Nat.reduceAdd, e0, e2, st_k (show 3 * p < 1083 by omega), st_k (show 3 * p + 2 < 1083 by omega), o0, o2, o3, m_rank E d hc, zps_s, zk_i, zk_r, zk_n, Ev_sw0, Ev_sw1, ↓reduceIte, Int32.reduceLT, Int32.reduceAdd, h20, true_and, fitM, fitG]
  generalize z.1 130 (36 + 5 * c + 2) = vo
  generalize z.1 130 (3 * p + 2) = ne
  generalize z.1 130 (36 + 5 * c + 0) = le
  generalize z.1 130 (36 + 5 * c + 3) = dr
  generalize z.1 130 (3 * p) = ki
  generalize rkF _ _ _ _ = rk
  by_cases hv : vo < ne
  · simp only [hv, ↓reduceIte]
    generalize 10 - (ne - vo) + (6 - 2 * rk) = pl
    by_cases h1 : pl + le - dr < 0 <;> by_cases h2 : pl < 5 <;> simp only [h1, h2, ↓reduceIte, Kite]
  · simp only [hv, ↓reduceIte]
    generalize 10 - (vo - ne) + (6 - 2 * rk) = pl
    by_cases h1 : pl + le - dr < 0 <;> by_cases h2 : pl < 5 <;> simp only [h1, h2, ↓reduceIte, Kite]
