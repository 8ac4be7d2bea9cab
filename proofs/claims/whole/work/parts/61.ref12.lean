/-! the reference: layLots, hours, rankOrLast -/
def llF (w : Nat → Int32) (nc : Nat) (r : Int32) (i : Nat) (g : Nat → Int32) : Nat → Int32 := if r = 0 then gvF w nc (i / 3) (i % 3) g else gvF w nc (i % nc) (i / nc) g
def llZ (w : Nat → Int32) (nc : Nat) (r : Int32) (g : Nat → Int32) : Nat → Int32 := itr (llF w nc r) (3 * nc) (itr (fun i g => upd g i (-1)) 6 g)
theorem m_layLots (E : zE) (d : Nat) {nc : Nat} (hnc : nc ≤ 6) {z : zS} (hc : z.1 130 105 = nI nc) (r : Int32) (K : Option Value → zH → Prop) : Cl E (d + 2) 202 [.ref 129, .int r] (HP z) K = K none (HP (setR z.1 139 (llZ (z.1 138) nc r (z.1 139)), z.2)) := by
  have h1 : (130 : Nat) ≠ 139 := by decide
  have h2 : (138 : Nat) ≠ 139 := by decide
  have t3 : ((3 : Int32) = 0) = False := by decide
  have e3 : (3 : Int32) = nI 3 := by decide
  have e3n : (3 : Int32) * nI nc = nI (3 * nc) := by rw [e3, nI_mul]
  have gv : ∀ (g : Nat → Int32) (c k : Nat), c < 6 → k < 3 → ∀ K : Option Value → zH → Prop, Cl E (d + 1) 201 [.ref 129, .int (nI c), .int (nI k)] (HP (setR z.1 139 g, z.2)) K = K none (HP (setR z.1 139 (gvF (z.1 138) nc c k g), z.2)) := fun g c k h6 h3 K => by
    rw [m_gives E d hnc h6 h3 (z := (setR z.1 139 g, z.2)) (by simp only [setR_n h1]; exact hc) K]
    simp only [setR_s, setR_2, setR_n h2]
  have loop1 := itr_eq (fun i g => Ev E (d + 2) zm_X9_layLots 10 [some (.ref 129), some (.int r), some (.int (nI nc)), some (.int (nI i))] [] (HP (setR z.1 139 g, z.2)) K) (fun i g => upd g i (-1)) (z.1 139) 6 (fun i hi => by
    generalize itr _ i _ = g
    rw [e_X9_layLots_10]
    simp only [↓e_X9_layLots_4, ↓e_X9_layLots_7, ↓e_X9_layLots_16, ↓e_X9_layLots_20, ↓e_X9_layLots_23, ↓e_X9_layLots_29, ↓e_X9_layLots_38, ↓e_X9_layLots_42, ↓e_X9_layLots_46, ↓e_X9_layLots_49, ↓e_X9_layLots_52, ↓e_X9_layLots_55, ↓e_X9_layLots_59, ↓e_X9_layLots_62, ↓e_X9_layLots_65, ↓e_X9_layLots_71, g9 o9_129, Nat.reduceAdd, wi_k i139 hi (by decide), set2_R, setR_s, setR_2, zk_i, zk_r, zk_n, lt_lit (n := 6) (x := 6) (by decide) (show i < 2 ^ 31 by omega) (by decide), hi, ↓reduceIte, nI_1])
  have loop2 : ∀ g : Nat → Int32, Ev E (d + 2) zm_X9_layLots 31 [some (.ref 129), some (.int r), some (.int (nI nc)), some (.int 0)] [] (HP (setR z.1 139 g, z.2)) K = K none (HP (setR z.1 139 (itr (llF (z.1 138) nc r) (3 * nc) g), z.2)) := fun g => by
    have l := itr_eq (fun i g => Ev E (d + 2) zm_X9_layLots 31 [some (.ref 129), some (.int r), some (.int (nI nc)), some (.int (nI i))] [] (HP (setR z.1 139 g, z.2)) K) (llF (z.1 138) nc r) g (3 * nc) (fun i hi => by
      generalize itr _ i _ = g
      have hi18 : i < 18 := by omega
      have n0 : 0 < nc := by omega
      have nz : (nI nc = 0) = False := eq_false (nI_ne0 n0 (by omega))
      have d3 : nI i / 3 = nI (i / 3) := by rw [e3, nI_div (by omega) (by decide)]
      have q3 : nI i - nI (i / 3) * 3 = nI (i % 3) := by rw [← d3, e3, nI_mod (by omega) (by decide)]
      have dn : nI i / nI nc = nI (i / nc) := nI_div (by omega) (by omega)
      have qn : nI i - nI (i / nc) * nI nc = nI (i % nc) := by rw [← dn, nI_mod (by omega) (by omega)]
      have b1 : i / 3 < 6 := by omega
      have b2 : i % 3 < 3 := by omega
      have b3 : i % nc < 6 := by
        have := Nat.mod_lt i n0
        omega
      have b4 : i / nc < 3 := Nat.div_lt_of_lt_mul (by rw [Nat.mul_comm]; exact hi)
      rw [e_X9_layLots_31]
      simp only [e3n, nI_lt_iff (show i < 2 ^ 31 by omega) (show 3 * nc < 2 ^ 31 by omega), hi, ↓reduceIte]
      by_cases hr : r = 0
      · simp only [↓e_X9_layLots_4, ↓e_X9_layLots_7, ↓e_X9_layLots_16, ↓e_X9_layLots_20, ↓e_X9_layLots_23, ↓e_X9_layLots_29, ↓e_X9_layLots_38, ↓e_X9_layLots_42, ↓e_X9_layLots_46, ↓e_X9_layLots_49, ↓e_X9_layLots_52, ↓e_X9_layLots_55, ↓e_X9_layLots_59, ↓e_X9_layLots_62, ↓e_X9_layLots_65, ↓e_X9_layLots_71, v9 o9_129, hr, t3, d3, q3, gv g _ _ b1 b2, zps_n, not_false_eq_true, true_and, zk_i, zk_r, zk_n, nI_1, ↓reduceIte, llF]
      · simp only [↓e_X9_layLots_4, ↓e_X9_layLots_7, ↓e_X9_layLots_16, ↓e_X9_layLots_20, ↓e_X9_layLots_23, ↓e_X9_layLots_29, ↓e_X9_layLots_38, ↓e_X9_layLots_42, ↓e_X9_layLots_46, ↓e_X9_layLots_49, ↓e_X9_layLots_52, ↓e_X9_layLots_55, ↓e_X9_layLots_59, ↓e_X9_layLots_62, ↓e_X9_layLots_65, ↓e_X9_layLots_71, v9 o9_129, hr, nz, dn, qn, gv g _ _ b3 b4, zps_n, not_false_eq_true, true_and, zk_i, zk_r, zk_n, nI_1, ↓reduceIte, llF])
    rw [nI_0] at l
    rw [l, e_X9_layLots_31]
    simp only [↓e_X9_layLots_4, ↓e_X9_layLots_7, ↓e_X9_layLots_16, ↓e_X9_layLots_20, ↓e_X9_layLots_23, ↓e_X9_layLots_29, ↓e_X9_layLots_38, ↓e_X9_layLots_42, ↓e_X9_layLots_46, ↓e_X9_layLots_49, ↓e_X9_layLots_52, ↓e_X9_layLots_55, ↓e_X9_layLots_59, ↓e_X9_layLots_62, ↓e_X9_layLots_65, ↓e_X9_layLots_71, e3n, nI_lt_iff (show 3 * nc < 2 ^ 31 by omega) (show 3 * nc < 2 ^ 31 by omega), Nat.lt_irrefl, ↓reduceIte]
  simp only [↓c_X9_layLots, ↓e_X9_layLots_0, ↓e_X9_layLots_4, ↓e_X9_layLots_7, ↓e_X9_layLots_16, ↓e_X9_layLots_20, ↓e_X9_layLots_23, ↓e_X9_layLots_29, ↓e_X9_layLots_38, ↓e_X9_layLots_42, ↓e_X9_layLots_46, ↓e_X9_layLots_49, ↓e_X9_layLots_52, ↓e_X9_layLots_55, ↓e_X9_layLots_59, ↓e_X9_layLots_62, ↓e_X9_layLots_65, ↓e_X9_layLots_71, g9 o9_129, Nat.reduceAdd, stL, hc, zk_i, zk_r, zk_n]
  rw [nI_0] at loop1
  simp only [setR_id] at loop1
  rw [loop1, e_X9_layLots_10]
  simp only [lt_lit (n := 6) (x := 6) (by decide) (show 6 < 2 ^ 31 by decide) (by decide), Nat.lt_irrefl, ↓reduceIte]
  simp only [↓e_X9_layLots_4, ↓e_X9_layLots_7, ↓e_X9_layLots_16, ↓e_X9_layLots_20, ↓e_X9_layLots_23, ↓e_X9_layLots_29, ↓e_X9_layLots_38, ↓e_X9_layLots_42, ↓e_X9_layLots_46, ↓e_X9_layLots_49, ↓e_X9_layLots_52, ↓e_X9_layLots_55, ↓e_X9_layLots_59, ↓e_X9_layLots_62, ↓e_X9_layLots_65, ↓e_X9_layLots_71, zk_i, zk_r, zk_n, loop2, llZ]
