/-! the reference: lots -/
def frF (g : Nat → Int32) (p : Int32) (i : Nat) (r : Bool) : Bool := r && !decide (g i = p)
def frB (g : Nat → Int32) (nc : Nat) (p : Int32) : Bool := itr (frF g p) nc (!decide (p = -1))
theorem m_isFree (E : zE) (d : Nat) {nc : Nat} (hnc : nc ≤ 6) {z : zS} (hc : z.1 130 105 = nI nc) (p : Int32) (K : Option Value → zH → Prop) : Cl E d 200 [.ref 129, .int p] (HP z) K = K (some (.int (bI (frB (z.1 139) nc p)))) (HP z) := by
  have hn' : nc < 2 ^ 31 := by omega
  have loop : ∀ r : Bool, Ev E d zm_X9_isFree 13 [some (.ref 129), some (.int p), some (.int (bI r)), some (.int 0)] [] (HP z) K = K (some (.int (bI (itr (frF (z.1 139) p) nc r)))) (HP z) := fun r => by
    have l := itr_eq (fun i r => Ev E d zm_X9_isFree 13 [some (.ref 129), some (.int p), some (.int (bI r)), some (.int (nI i))] [] (HP z) K) (frF (z.1 139) p) r nc (fun i hi => by
      generalize itr _ i _ = r
      rw [e_X9_isFree_13]
      simp only [↓e_X9_isFree_5, ↓e_X9_isFree_9, ↓e_X9_isFree_10, ↓e_X9_isFree_18, ↓e_X9_isFree_21, ↓e_X9_isFree_24, ↓e_X9_isFree_28, ↓e_X9_isFree_32, ↓e_X9_isFree_34, ↓e_X9_isFree_38, ↓e_X9_isFree_42, ↓e_X9_isFree_43, ↓e_X9_isFree_50, g9 o9_129, Nat.reduceAdd, stL, ri_k i139 (show i < 6 by omega) (by decide), hc, bI_0, zk_i, zk_r, zk_n, nI_lt_iff (show i < 2 ^ 31 by omega) hn', hi, ↓reduceIte, nI_1, frF]
      cases r
      · simp [bI]
      · by_cases q : z.1 139 i = p <;> simp [q, bI])
    rw [nI_0] at l
    rw [l, e_X9_isFree_13]
    simp only [↓e_X9_isFree_5, ↓e_X9_isFree_9, ↓e_X9_isFree_10, ↓e_X9_isFree_18, ↓e_X9_isFree_21, ↓e_X9_isFree_24, ↓e_X9_isFree_28, ↓e_X9_isFree_32, ↓e_X9_isFree_34, ↓e_X9_isFree_38, ↓e_X9_isFree_42, ↓e_X9_isFree_43, ↓e_X9_isFree_50, g9 o9_129, Nat.reduceAdd, stL, hc, nI_lt_iff hn' hn', Nat.lt_irrefl, ↓reduceIte, bI_01, true_and]
  have l1 := loop true
  have l0 := loop false
  rw [bI_t] at l1
  rw [bI_f] at l0
  simp only [↓c_X9_isFree, ↓e_X9_isFree_0, ↓e_X9_isFree_5, ↓e_X9_isFree_9, ↓e_X9_isFree_10, ↓e_X9_isFree_18, ↓e_X9_isFree_21, ↓e_X9_isFree_24, ↓e_X9_isFree_28, ↓e_X9_isFree_32, ↓e_X9_isFree_34, ↓e_X9_isFree_38, ↓e_X9_isFree_42, ↓e_X9_isFree_43, ↓e_X9_isFree_50, zk_i, zk_r, zk_n, l0, l1, frB]
  by_cases h : p = -1 <;> simp [h]
def gvF (w : Nat → Int32) (nc c k : Nat) (g : Nat → Int32) : Nat → Int32 := upd g c (if g c = -1 ∧ frB g nc (w (3 * c + k)) = true then w (3 * c + k) else g c)
theorem m_gives (E : zE) (d : Nat) {nc c k : Nat} (hnc : nc ≤ 6) (h6 : c < 6) (h3 : k < 3) {z : zS} (hc : z.1 130 105 = nI nc) (K : Option Value → zH → Prop) : Cl E (d + 1) 201 [.ref 129, .int (nI c), .int (nI k)] (HP z) K = K none (HP (setR z.1 139 (gvF (z.1 138) nc c k (z.1 139)), z.2)) := by
  have e : (3 : Int32) * nI c + nI k = nI (3 * c + k) := by
    rw [show (3 : Int32) = nI 3 from by decide, nI_mul, nI_add]
  simp only [↓c_X9_gives, ↓e_X9_gives_0, ↓e_X9_gives_4, ↓e_X9_gives_9, ↓e_X9_gives_11, ↓e_X9_gives_15, ↓e_X9_gives_20, ↓e_X9_gives_26, ↓e_X9_gives_29, ↓e_X9_gives_32, ↓e_X9_gives_36, ↓e_X9_gives_42, ↓e_X9_gives_45, ↓e_X9_gives_49, ↓e_X9_gives_51, ↓e_X9_gives_52, g9 o9_129, v9 o9_129, Nat.reduceAdd, e, ri_k i139 h6 (by decide), ri_k i138 (show 3 * c + k < 18 by omega) (by decide), wi_k i139 h6 (by decide), m_isFree E d hnc hc, set2_R, bI_0, zps_s, zk_i, zk_r, zk_n, gvF]
  by_cases h1 : z.1 139 c = -1
  · cases frB (z.1 139) nc (z.1 138 (3 * c + k)) <;> simp [h1]
  · simp [h1]
