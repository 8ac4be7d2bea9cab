/-! the reference: takes, notesRow, signOf -/
theorem m_takes (E : zE) (d : Nat) (f c : Int32) {np : Nat} (hnp : np ≤ 6) {z : zS} (hp : z.1 130 104 = nI np) (K : Option Value → zH → Prop) : Cl E d 164 [.ref 129, .int f, .int c] (HP z) K = K none (HP (setR (setR z.1 129 (upd (upd (upd (z.1 129) 14 1) 12 f) 13 c)) 136 (itr (fun i g => upd g i (z.1 135 i)) np (z.1 136)), z.2)) := by
  have hn' : np < 2 ^ 31 := by omega
  have h1 : (130 : Nat) ≠ 136 := by decide
  have h2 : (130 : Nat) ≠ 129 := by decide
  have h3 : (135 : Nat) ≠ 136 := by decide
  have h4 : (135 : Nat) ≠ 129 := by decide
  have h5 : (136 : Nat) ≠ 129 := by decide
  have loop : ∀ r : Nat → Int32, Ev E d zm_X9_takes 17 [some (.ref 129), some (.int f), some (.int c), some (.int 0)] [] (HP (setR z.1 129 r, z.2)) K = K none (HP (setR (setR z.1 129 r) 136 (itr (fun i g => upd g i (z.1 135 i)) np (z.1 136)), z.2)) := fun r => by
    have l := itr_eq (fun i g => Ev E d zm_X9_takes 17 [some (.ref 129), some (.int f), some (.int c), some (.int (nI i))] [] (HP (setR (setR z.1 129 r) 136 g, z.2)) K) (fun i g => upd g i (z.1 135 i)) (z.1 136) np (fun i hi => by
      generalize itr _ i _ = g
      rw [e_X9_takes_17]
      simp only [↓e_X9_takes_5, ↓e_X9_takes_10, ↓e_X9_takes_15, ↓e_X9_takes_22, ↓e_X9_takes_25, ↓e_X9_takes_28, ↓e_X9_takes_32, ↓e_X9_takes_37, ↓e_X9_takes_39, ↓e_X9_takes_40, ↓e_X9_takes_46, g9 o9_129, Nat.reduceAdd, stL, ri_k i135 (show i < 6 by omega) (by decide), wi_k i136 (show i < 6 by omega) (by decide), setR_n h1, setR_n h2, setR_n h3, setR_n h4, setR_s, setR_2, set2_R, hp, zk_i, zk_r, zk_n, nI_lt_iff (show i < 2 ^ 31 by omega) hn', hi, ↓reduceIte, nI_1])
    have e : setR (setR z.1 129 r) 136 (z.1 136) = setR z.1 129 r := by
      have := setR_id (setR z.1 129 r) 136
      rw [setR_n h5] at this
      exact this
    rw [nI_0, e] at l
    rw [l, e_X9_takes_17]
    simp only [↓e_X9_takes_5, ↓e_X9_takes_10, ↓e_X9_takes_15, ↓e_X9_takes_22, ↓e_X9_takes_25, ↓e_X9_takes_28, ↓e_X9_takes_32, ↓e_X9_takes_37, ↓e_X9_takes_39, ↓e_X9_takes_40, ↓e_X9_takes_46, g9 o9_129, Nat.reduceAdd, stL, setR_n h1, setR_n h2, hp, nI_lt_iff hn' hn', Nat.lt_irrefl, ↓reduceIte]
  simp only [↓c_X9_takes, ↓e_X9_takes_0, ↓e_X9_takes_5, ↓e_X9_takes_10, ↓e_X9_takes_15, ↓e_X9_takes_22, ↓e_X9_takes_25, ↓e_X9_takes_28, ↓e_X9_takes_32, ↓e_X9_takes_37, ↓e_X9_takes_39, ↓e_X9_takes_40, ↓e_X9_takes_46, p9 o9_129, set2_R, setR_s, setR_2, zk_i, zk_r, zk_n, loop]
def nrF (z : zS) (b : Nat) (i : Nat) (h : Int64) : Int64 := m31 h (z.1 130 (b + i))
theorem set2L_2 (f : Nat → Nat → Int64) (o k : Nat) (x y : Int64) : set2L (set2L f o k x) o k y = set2L f o k y := by
  funext a b
  unfold set2L
  split <;> rfl
theorem set2L_id (f : Nat → Nat → Int64) (o k : Nat) : set2L f o k (f o k) = f := by
  funext a b
  unfold set2L
  split
  · rename_i h
    rw [h.1, h.2]
  · rfl
theorem m_notesRow (E : zE) (d : Nat) {b n : Nat} (hb : b + n ≤ 1083) (z : zS) (K : Option Value → zH → Prop) : Cl E (d + 1) 225 [.ref 129, .int (nI b), .int (nI n)] (HP z) K = K none (HP (z.1, set2L z.2.1 129 21 (itr (nrF z b) n (z.2.1 129 21)), z.2.2)) := by
  have hn' : n < 2 ^ 31 := by omega
  have l := itr_eq (fun i h => Ev E (d + 1) zm_X9_notesRow 2 [some (.ref 129), some (.int (nI b)), some (.int (nI n)), some (.int (nI i))] [] (HP (z.1, set2L z.2.1 129 21 h, z.2.2)) K) (nrF z b) (z.2.1 129 21) n (fun i hi => by
    generalize itr _ i _ = h
    rw [e_X9_notesRow_2]
    simp only [↓e_X9_notesRow_7, ↓e_X9_notesRow_12, ↓e_X9_notesRow_16, ↓e_X9_notesRow_20, ↓e_X9_notesRow_26, g9 o9_129, v9 o9_129, Nat.reduceAdd, nI_add, st_k (show b + i < 1083 by omega), m_notes, zps_n, set2L_2, set2L_s, zk_i, zk_r, zk_n, nI_lt_iff (show i < 2 ^ 31 by omega) hn', hi, ↓reduceIte, nI_1, nrF, m31])
  rw [nI_0, set2L_id] at l
  simp only [↓c_X9_notesRow, ↓e_X9_notesRow_0, ↓e_X9_notesRow_7, ↓e_X9_notesRow_12, ↓e_X9_notesRow_16, ↓e_X9_notesRow_20, ↓e_X9_notesRow_26, zk_i, zk_r, zk_n]
  rw [show z = (z.1, z.2.1, z.2.2) from rfl]
  rw [l, e_X9_notesRow_2]
  simp only [↓e_X9_notesRow_7, ↓e_X9_notesRow_12, ↓e_X9_notesRow_16, ↓e_X9_notesRow_20, ↓e_X9_notesRow_26, nI_lt_iff hn' hn', Nat.lt_irrefl, ↓reduceIte]
theorem m_signOf (E : zE) (d : Nat) {a b k : Nat} (ha : a < 2 ^ 40) (hb : b < 2 ^ 40) (hk : k < 3) {z : zS} (hza : z.2.1 129 17 = lN a) (hzb : z.2.1 129 18 = lN b) (K : Option Value → zH → Prop) : Cl E (d + 1) 215 [.ref 129, .int (nI k)] (HP z) K = K (some (.int (if k = 0 then (if 0 < a then 1 else 0) else if k = 1 then nI (lbN a) else nI (lbN b)))) (HP z) := by
  have f1 := m_flag E d true
  have f0 := m_flag E d false
  rw [bI_t] at f1
  rw [bI_f] at f0
  have e : ∀ j, j < 3 → (nI k = nI j) = (k = j) := fun j hj => propext (nI_eq (by omega) (by omega))
  have e0 := e 0 (by decide)
  have e1 := e 1 (by decide)
  rw [show nI 0 = 0 from by decide] at e0
  rw [show nI 1 = 1 from by decide] at e1
  simp only [↓c_X9_signOf, ↓e_X9_signOf_0, ↓e_X9_signOf_4, ↓e_X9_signOf_8, ↓e_X9_signOf_13, ↓e_X9_signOf_17, ↓e_X9_signOf_18, ↓e_X9_signOf_21, ↓e_X9_signOf_24, ↓e_X9_signOf_29, ↓e_X9_signOf_33, ↓e_X9_signOf_36, ↓e_X9_signOf_40, ↓e_X9_signOf_43, g9 o9_129, hza, hzb, f0, f1, m_limbs E d ha, m_limbs E d hb, lN_pos (show a < 2 ^ 63 by omega), e0, e1, zps_s, zk_i, zk_r, zk_n]
  by_cases h0 : k = 0
  · by_cases h : 0 < a <;> simp only [h0, h, ↓reduceIte]
  · by_cases h1 : k = 1 <;> simp [h0, h1]
