/-! class LotDraw (at 76; got 77, script 78, told 90) -/
theorem i77 : isI 77 6 := rfl
theorem i90 : isI 90 18 := rfl
theorem i87 : isI 87 18 := rfl
theorem l_tellTruth (E : zE) (d : Nat) (f : Nat → Nat → Int32) (t : (Nat → Nat → Int64) × Nat) (K : Option Value → zH → Prop) : Cl E d 32 [.ref 76] (HP (f, t)) K = K none (HP (itr (cpF [(90, 87)]) 18 f, t)) := by
  have l := itr_eq (fun i f => Ev E d zm_X3_tellTruth 2 [some (.ref 76), some (.int (nI i))] [] (HP (f, t)) K) (cpF [(90, 87)]) f 18 (fun i hi => by
    generalize itr _ i _ = f
    rw [e_X3_tellTruth_2]
    simp only [↓e_X3_tellTruth_7, ↓e_X3_tellTruth_8, ↓e_X3_tellTruth_11, ↓e_X3_tellTruth_15, ↓e_X3_tellTruth_20, ↓e_X3_tellTruth_23, ↓e_X3_tellTruth_25, ↓e_X3_tellTruth_26, ↓e_X3_tellTruth_32, g3 o3_76, g6 isS_78.1, Nat.reduceAdd, HP_al i90, ri_k i87 hi (by decide), wi_k i90 hi (by decide), zk_i, zk_r, zk_n, nI_lt_iff (show i < 2 ^ 31 by omega) (show 18 < 2 ^ 31 by decide), hi, ↓reduceIte, nI_1]
    rfl)
  rw [nI_0] at l
  simp only [↓c_X3_tellTruth, ↓e_X3_tellTruth_0, ↓e_X3_tellTruth_7, ↓e_X3_tellTruth_8, ↓e_X3_tellTruth_11, ↓e_X3_tellTruth_15, ↓e_X3_tellTruth_20, ↓e_X3_tellTruth_23, ↓e_X3_tellTruth_25, ↓e_X3_tellTruth_26, ↓e_X3_tellTruth_32, zk_i, zk_r, zk_n]
  rw [l, e_X3_tellTruth_2]
  simp only [↓e_X3_tellTruth_7, ↓e_X3_tellTruth_8, ↓e_X3_tellTruth_11, ↓e_X3_tellTruth_15, ↓e_X3_tellTruth_20, ↓e_X3_tellTruth_23, ↓e_X3_tellTruth_25, ↓e_X3_tellTruth_26, ↓e_X3_tellTruth_32, g3 o3_76, Nat.reduceAdd, HP_al i90, nI_lt_iff (show 18 < 2 ^ 31 by decide) (show 18 < 2 ^ 31 by decide), Nat.lt_irrefl, ↓reduceIte]
/-- one offer: who has got what, and what is taken -/
def ofF (z : zS) (nc np : Nat) (c k : Nat) (s : (Nat → Int32) × Int32) : (Nat → Int32) × Int32 := if c < nc ∧ s.1 c = -1 ∧ inB (z.1 90 (3 * c + k)) (nI np) = true ∧ s.2 >>> (z.1 90 (3 * c + k) &&& 31) &&& 1 = 0 then (upd s.1 c (z.1 90 (3 * c + k)), s.2 ||| (1 <<< (z.1 90 (3 * c + k) &&& 31))) else s
theorem l_offer (E : zE) (d : Nat) {nc np c k : Nat} (hnc : nc ≤ 6) (hc : c < 6) (hk : k < 3) {z : zS} (h4 : z.1 78 4 = nI nc) (h0 : z.1 78 0 = nI np) (s : (Nat → Int32) × Int32) (K : Option Value → zH → Prop) : Cl E (d + 1) 33 [.ref 76, .int (nI c), .int (nI k)] (HP (setR (setR z.1 77 s.1) 76 (upd (z.1 76) 3 s.2), z.2)) K = K none (HP (setR (setR z.1 77 (ofF z nc np c k s).1) 76 (upd (z.1 76) 3 (ofF z nc np c k s).2), z.2)) := by
  have n1 : (78 : Nat) ≠ 77 := by decide
  have n2 : (78 : Nat) ≠ 76 := by decide
  have n3 : (90 : Nat) ≠ 77 := by decide
  have n4 : (90 : Nat) ≠ 76 := by decide
  have n5 : (77 : Nat) ≠ 76 := by decide
  have n6 : (76 : Nat) ≠ 77 := by decide
  have sw : ∀ (g r q : Nat → Int32), setR (setR (setR z.1 77 g) 76 r) 77 q = setR (setR z.1 77 q) 76 r := fun g r q => by
    funext a
    unfold setR
    by_cases e1 : a = 77
    · subst e1
      simp
    · simp [e1]
  have e3 : nI c * 3 + nI k = nI (3 * c + k) := by
    rw [(nI_3 hc).1, nI_add]
  simp only [↓c_X3_offer, ↓e_X3_offer_0, ↓e_X3_offer_4, ↓e_X3_offer_8, ↓e_X3_offer_11, ↓e_X3_offer_15, ↓e_X3_offer_20, ↓e_X3_offer_24, ↓e_X3_offer_26, ↓e_X3_offer_30, ↓e_X3_offer_31, ↓e_X3_offer_35, ↓e_X3_offer_41, ↓e_X3_offer_46, ↓e_X3_offer_50, ↓e_X3_offer_53, ↓e_X3_offer_57, ↓e_X3_offer_64, ↓e_X3_offer_68, ↓e_X3_offer_71, ↓e_X3_offer_76, ↓e_X3_offer_83, g3 o3_76, p3 o3_76, g6 isS_78.1, v6 isS_78.1, Nat.reduceAdd, s_hasChild isS_78.1, s_hasPart isS_78.1, setR_n n1, setR_n n2, setR_n n3, setR_n n4, setR_n n5, setR_s, setR_2, set2_R, sw, upd_s, upd_2, h4, h0, inB_nI (show c < 2 ^ 31 by omega) (show nc < 2 ^ 31 by omega), bI_0, zps_s, zk_i, zk_r, zk_n, nI_neg (show k < 2 ^ 31 by omega), lt_lit (n := 3) (x := 3) (by decide) (show k < 2 ^ 31 by omega) (by decide), hk, ↓reduceIte, e3, ri_k i77 hc (by decide), ri_k i90 (show 3 * c + k < 18 by omega) (by decide), wi_k i77 hc (by decide), decide_eq_false_iff_not, ofF]
  by_cases q1 : c < nc <;> by_cases q2 : s.1 c = -1 <;> by_cases q4 : s.2 >>> (z.1 90 (3 * c + k) &&& 31) &&& 1 = 0 <;> cases q3 : inB (z.1 90 (3 * c + k)) (nI np) <;> simp [q1, q2, q4]
