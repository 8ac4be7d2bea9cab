/-! class LotDraw (at 76; got 77, script 78, told 90) -/
theorem i77 : isI 77 6 := rfl
theorem i90 : isI 90 18 := rfl
theorem i87 : isI 87 18 := rfl
theorem l_tellTruth (E : zE) (d : Nat) (f : Nat → Nat → Int32) (t : (Nat → Nat → Int64) × Nat) (K : Option Value → zH → Prop) : Cl E d 32 [.ref 76] (HP (f, t)) K = K none (HP (itr (cpF [(90, 87)]) 18 f, t)) := by
  have l := itr_eq (fun i f => Ev E d zm_X3_tellTruth 2 [some (.ref 76), some (.int (nI i))] [] (HP (f, t)) K) (cpF [(90, 87)]) f 18 (fun i hi => by
    generalize itr _ i _ = f
    rw [e_X3_tellTruth_2]
    simp only [↓e_X3_tellTruth_7, ↓e_X3_tellTruth_8, ↓e_X3_tellTruth_11, ↓e_X3_tellTruth_15, ↓e_X3_tellTruth_20, ↓e_X3_tellTruth_23, ↓e_X3_tellTruth_25, ↓e_X3_tellTruth_26, ↓e_X3_tellTruth_32, g3 o3_76, g6 isS_78.1, Nat.reduceAdd, HP_al i90, ri_k i87 hi (by decide), wi_k i90 hi (by decide), zk_i, zk_r, zk_n, nI_lt_iff (show i < 2 ^ 31 by omega) (show 18 < 2 ^ 31 by decide), hi, ↓reduceIte, nI_1]
    rfl)
  rw [nI_0] at l
  simp only [↓c_X3_tellTruth, ↓e_X3_tellTruth_0, ↓e_X3_tellTruth_7, ↓e_X3_tellTruth_8, ↓e_X3_tellTruth_11, ↓e_X3_tellTruth_15, ↓e_X3_tellTruth_20, ↓e_X3_tellTruth_23, ↓e_X3_tellTruth_25, ↓e_X3_tellTruth_26, ↓e_X3_tellTruth_32, zk_i, zk_r, zk_n]
  rw [l, e_X3_tellTruth_2]
  simp only [↓e_X3_tellTruth_7, ↓e_X3_tellTruth_8, ↓e_X3_tellTruth_11, ↓e_X3_tellTruth_15, ↓e_X3_tellTruth_20, ↓e_X3_tellTruth_23, ↓e_X3_tellTruth_25, ↓e_X3_tellTruth_26, ↓e_X3_tellTruth_32, g3 o3_76, Nat.reduceAdd, HP_al i90, nI_lt_iff (show 18 < 2 ^ 31 by decide) (show 18 < 2 ^ 31 by decide), Nat.lt_irrefl, ↓reduceIte]
