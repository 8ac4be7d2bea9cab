/-! class State: loops -/
def siF (z : zS) (o : Nat) (s : Int32) (i : Nat) (b : Int32 × Int32) : Int32 × Int32 := if inB (z.1 (o + 13) i) (z.1 (o + 1) 4) = true then (b.1 ||| (1 <<< (z.1 (o + 13) i &&& 31)), if plB z (o + 1) s (nI i) = true then b.2 ||| (1 <<< (z.1 (o + 13) i &&& 31)) else b.2) else b
def siZ (z : zS) (o np : Nat) (s : Int32) : Int32 := (itr (siF z o s) np (0, 0)).1 &&& ((itr (siF z o s) np (0, 0)).2 ^^^ (-1))
theorem t_sitting {o : Nat} (hT : isT o) {np nc ns : Nat} {z : zS} (hw : wfS z (o + 1) np nc ns) (E : zE) (d : Nat) (s : Int32) (K : Option Value → zH → Prop) : Cl E (d + 2) 79 [.ref o, .int s] (HP z) K = K (some (.int (siZ z o np s))) (HP z) := by
  have ho := hT.1
  have hS := hT.2.1
  have hs := hS.1
  have hnp := hw.2.2.2.1
  have loop := itr_eq (fun i b => Ev E (d + 2) zm_X7_sitting 7 [some (.ref o), some (.int s), some (.int b.1), some (.int b.2), some (.int (nI i))] [] (HP z) K) (siF z o s) (0, 0) np (fun i hi => by
    generalize itr _ i _ = b
    rw [e_X7_sitting_7]
    simp only [↓e_X7_sitting_13, ↓e_X7_sitting_16, ↓e_X7_sitting_19, ↓e_X7_sitting_23, ↓e_X7_sitting_27, ↓e_X7_sitting_30, ↓e_X7_sitting_33, ↓e_X7_sitting_36, ↓e_X7_sitting_42, ↓e_X7_sitting_45, ↓e_X7_sitting_52, ↓e_X7_sitting_58, ↓e_X7_sitting_61, ↓e_X7_sitting_67, ↓e_X7_sitting_70, ↓e_X7_sitting_73, ↓e_X7_sitting_79, g7 ho, g6 hs, v6 hs, rT hT, s_plays hS hw, s_hasChild hs, zps_s, bI_0, zk_i, zk_r, hw.1, nI_lt_iff (show i < 2 ^ 31 by omega) (show np < 2 ^ 31 by omega), hi, ↓reduceIte, nI_1, nI_cl (show i < 2 ^ 31 by omega), in_nI (show i < 6 by omega) (by decide), true_and, siF]
    cases inB (z.1 (o + 13) i) (z.1 (o + 1) 4) <;> cases plB z (o + 1) s (nI i) <;> simp)
  simp only [↓c_X7_sitting, ↓e_X7_sitting_0, ↓e_X7_sitting_13, ↓e_X7_sitting_16, ↓e_X7_sitting_19, ↓e_X7_sitting_23, ↓e_X7_sitting_27, ↓e_X7_sitting_30, ↓e_X7_sitting_33, ↓e_X7_sitting_36, ↓e_X7_sitting_42, ↓e_X7_sitting_45, ↓e_X7_sitting_52, ↓e_X7_sitting_58, ↓e_X7_sitting_61, ↓e_X7_sitting_67, ↓e_X7_sitting_70, ↓e_X7_sitting_73, ↓e_X7_sitting_79, zk_i, zk_r, zk_n, siZ]
  rw [nI_0] at loop
  rw [loop, e_X7_sitting_7]
  simp only [↓e_X7_sitting_13, ↓e_X7_sitting_16, ↓e_X7_sitting_19, ↓e_X7_sitting_23, ↓e_X7_sitting_27, ↓e_X7_sitting_30, ↓e_X7_sitting_33, ↓e_X7_sitting_36, ↓e_X7_sitting_42, ↓e_X7_sitting_45, ↓e_X7_sitting_52, ↓e_X7_sitting_58, ↓e_X7_sitting_61, ↓e_X7_sitting_67, ↓e_X7_sitting_70, ↓e_X7_sitting_73, ↓e_X7_sitting_79, g7 ho, g6 hs, hw.1, nI_lt_iff (show np < 2 ^ 31 by omega) (show np < 2 ^ 31 by omega), Nat.lt_irrefl, ↓reduceIte]
def slA (z : zS) (o ns : Nat) (s : Int32) (i : Nat) : Int32 := if plB z (o + 1) s (nI i) = true then minZ z (o + 1) (nI i) ns 0 else 0
def slF (z : zS) (o ns : Nat) (s hv : Int32) (i : Nat) (b : Int32) : Int32 := if 0 < slA z o ns s i then b + (if nI i = hv then z.1 (o + 1 + 2) i / 2 else z.1 (o + 1 + 2) i) * z.1 (o + 1 + 10) s.toNatClampNeg / slA z o ns s i * (100 - z.1 (o + 15) i) else b
def slZ (z : zS) (o np ns : Nat) (s hv : Int32) : Int32 := itr (slF z o ns s hv) np 0
theorem t_sceneSlips {o : Nat} (hT : isT o) {np nc ns : Nat} {z : zS} (hw : wfS z (o + 1) np nc ns) (E : zE) (d : Nat) (s hv : Int32) (K : Option Value → zH → Prop) : Cl E (d + 3) 80 [.ref o, .int s, .int hv] (HP z) K = K (some (.int (slZ z o np ns s hv))) (HP z) := by
  have ho := hT.1
  have hS := hT.2.1
  have hs := hS.1
  have hnp := hw.2.2.2.1
  have t2 : ((2 : Int32) = 0) = False := by decide
  have loop := itr_junk (τ := Option Value × Option Value) (fun i b x => Ev E (d + 3) zm_X7_sceneSlips 5 [some (.ref o), some (.int s), some (.int hv), some (.int b), some (.int (nI i)), x.1, x.2] [] (HP z) K) (slF z o ns s hv) 0 (R := K (some (.int (slZ z o np ns s hv))) (HP z)) np (fun i x hi => by
    generalize itr _ i _ = b
    rw [e_X7_sceneSlips_5]
    simp only [↓e_X7_sceneSlips_11, ↓e_X7_sceneSlips_14, ↓e_X7_sceneSlips_17, ↓e_X7_sceneSlips_21, ↓e_X7_sceneSlips_27, ↓e_X7_sceneSlips_30, ↓e_X7_sceneSlips_34, ↓e_X7_sceneSlips_39, ↓e_X7_sceneSlips_42, ↓e_X7_sceneSlips_43, ↓e_X7_sceneSlips_50, ↓e_X7_sceneSlips_56, ↓e_X7_sceneSlips_60, ↓e_X7_sceneSlips_63, ↓e_X7_sceneSlips_66, ↓e_X7_sceneSlips_68, ↓e_X7_sceneSlips_71, ↓e_X7_sceneSlips_75, ↓e_X7_sceneSlips_78, ↓e_X7_sceneSlips_81, ↓e_X7_sceneSlips_90, ↓e_X7_sceneSlips_93, ↓e_X7_sceneSlips_95, ↓e_X7_sceneSlips_99, ↓e_X7_sceneSlips_105, ↓e_X7_sceneSlips_108, ↓e_X7_sceneSlips_112, ↓e_X7_sceneSlips_118, g7 ho, g6 hs, v6 hs, rT hT, rS hS, s_plays hS hw, s_minutesOf hS hw, zps_s, bI_0, zk_i, zk_r, hw.1, nI_lt_iff (show i < 2 ^ 31 by omega) (show np < 2 ^ 31 by omega), hi, ↓reduceIte, nI_1, nI_cl (show i < 2 ^ 31 by omega), in_nI (show i < 6 by omega) (by decide), true_and, t2, not_false_eq_true, slF, slA]
    rcases (Bool.eq_false_or_eq_true (plB z (o + 1) s (nI i))).symm with hb | hb
    · simp only [hb, Bool.false_eq_true, ↓reduceIte, Int32.lt_irrefl]
      exact ⟨(_, _), rfl⟩
    · simp only [hb]
      have hq : vp_in s 7 := by
        unfold plB at hb
        simp only [Bool.and_eq_true] at hb
        exact in_inB hw.2.2.1 hw.2.2.2.2.2 (by decide) hb.1.1
      simp only [Bool.true_eq_false, ↓reduceIte, hq, true_and]
      by_cases ha : 0 < minZ z (o + 1) (nI i) ns 0
      · have ha' : ¬ minZ z (o + 1) (nI i) ns 0 = 0 := fun e => by
          rw [e] at ha
          exact absurd ha (by decide)
        simp only [ha, ha', ↓reduceIte, not_false_eq_true, true_and]
        by_cases hh : nI i = hv
        · simp only [hh, ↓reduceIte]
          exact ⟨(_, _), rfl⟩
        · simp only [hh, ↓reduceIte]
          exact ⟨(_, _), rfl⟩
      · simp only [ha, ↓reduceIte]
        exact ⟨(_, _), rfl⟩) (fun x => by
    rw [e_X7_sceneSlips_5]
    simp only [↓e_X7_sceneSlips_11, ↓e_X7_sceneSlips_14, ↓e_X7_sceneSlips_17, ↓e_X7_sceneSlips_21, ↓e_X7_sceneSlips_27, ↓e_X7_sceneSlips_30, ↓e_X7_sceneSlips_34, ↓e_X7_sceneSlips_39, ↓e_X7_sceneSlips_42, ↓e_X7_sceneSlips_43, ↓e_X7_sceneSlips_50, ↓e_X7_sceneSlips_56, ↓e_X7_sceneSlips_60, ↓e_X7_sceneSlips_63, ↓e_X7_sceneSlips_66, ↓e_X7_sceneSlips_68, ↓e_X7_sceneSlips_71, ↓e_X7_sceneSlips_75, ↓e_X7_sceneSlips_78, ↓e_X7_sceneSlips_81, ↓e_X7_sceneSlips_90, ↓e_X7_sceneSlips_93, ↓e_X7_sceneSlips_95, ↓e_X7_sceneSlips_99, ↓e_X7_sceneSlips_105, ↓e_X7_sceneSlips_108, ↓e_X7_sceneSlips_112, ↓e_X7_sceneSlips_118, g7 ho, g6 hs, hw.1, nI_lt_iff (show np < 2 ^ 31 by omega) (show np < 2 ^ 31 by omega), Nat.lt_irrefl, ↓reduceIte, slZ]) (none, none)
  simp only [↓c_X7_sceneSlips, ↓e_X7_sceneSlips_0, ↓e_X7_sceneSlips_11, ↓e_X7_sceneSlips_14, ↓e_X7_sceneSlips_17, ↓e_X7_sceneSlips_21, ↓e_X7_sceneSlips_27, ↓e_X7_sceneSlips_30, ↓e_X7_sceneSlips_34, ↓e_X7_sceneSlips_39, ↓e_X7_sceneSlips_42, ↓e_X7_sceneSlips_43, ↓e_X7_sceneSlips_50, ↓e_X7_sceneSlips_56, ↓e_X7_sceneSlips_60, ↓e_X7_sceneSlips_63, ↓e_X7_sceneSlips_66, ↓e_X7_sceneSlips_68, ↓e_X7_sceneSlips_71, ↓e_X7_sceneSlips_75, ↓e_X7_sceneSlips_78, ↓e_X7_sceneSlips_81, ↓e_X7_sceneSlips_90, ↓e_X7_sceneSlips_93, ↓e_X7_sceneSlips_95, ↓e_X7_sceneSlips_99, ↓e_X7_sceneSlips_105, ↓e_X7_sceneSlips_108, ↓e_X7_sceneSlips_112, ↓e_X7_sceneSlips_118, zk_i, zk_r, zk_n]
  rw [nI_0] at loop
  exact loop
def alZ (z : zS) (o np ns : Nat) (hv : Int32) : Int32 := itr (fun i b => b + slZ z o np ns (nI i) hv) ns 0
theorem t_allSlips {o : Nat} (hT : isT o) {np nc ns : Nat} {z : zS} (hw : wfS z (o + 1) np nc ns) (E : zE) (d : Nat) (hv : Int32) (K : Option Value → zH → Prop) : Cl E (d + 4) 81 [.ref o, .int hv] (HP z) K = K (some (.int (alZ z o np ns hv))) (HP z) := by
  have ho := hT.1
  have hS := hT.2.1
  have hs := hS.1
  have hns := hw.2.2.2.2.2
  have loop := itr_eq (fun i b => Ev E (d + 4) zm_X7_allSlips 4 [some (.ref o), some (.int hv), some (.int b), some (.int (nI i))] [] (HP z) K) (fun i b => b + slZ z o np ns (nI i) hv) 0 ns (fun i hi => by
    generalize itr _ i _ = b
    rw [e_X7_allSlips_4]
    simp only [↓e_X7_allSlips_9, ↓e_X7_allSlips_12, ↓e_X7_allSlips_15, ↓e_X7_allSlips_22, ↓e_X7_allSlips_30, g7 ho, v7 ho, g6 hs, v6 hs, t_sceneSlips hT hw, zps_s, zk_i, zk_r, hw.2.2.1, nI_lt_iff (show i < 2 ^ 31 by omega) (show ns < 2 ^ 31 by omega), hi, ↓reduceIte, nI_1])
  simp only [↓c_X7_allSlips, ↓e_X7_allSlips_0, ↓e_X7_allSlips_9, ↓e_X7_allSlips_12, ↓e_X7_allSlips_15, ↓e_X7_allSlips_22, ↓e_X7_allSlips_30, zk_i, zk_r, zk_n, alZ]
  rw [nI_0] at loop
  rw [loop, e_X7_allSlips_4]
  simp only [↓e_X7_allSlips_9, ↓e_X7_allSlips_12, ↓e_X7_allSlips_15, ↓e_X7_allSlips_22, ↓e_X7_allSlips_30, g7 ho, g6 hs, hw.2.2.1, nI_lt_iff (show ns < 2 ^ 31 by omega) (show ns < 2 ^ 31 by omega), Nat.lt_irrefl, ↓reduceIte]
def leR (w : Int32) : Int32 := if w = 0 then 8 else if w = 1 then 2 else 5
def leZ (z : zS) (o n : Nat) (r : Int32) : Int64 := itr (fun i b => b * (if z.1 (o + 18) i = 0 then r.toInt64 else (10 - r).toInt64)) n 1
theorem t_leaning {o : Nat} (hT : isT o) {n : Nat} (hn : n ≤ 10) {z : zS} (hz : z.1 o 10 = nI n) (E : zE) (d : Nat) (w : Int32) (K : Option Value → zH → Prop) : Cl E d 82 [.ref o, .int w] (HP z) K = K (some (.long (leZ z o n (leR w)))) (HP z) := by
  have ho := hT.1
  have loop : ∀ r, _ := fun r => itr_eq (fun i b => Ev E d zm_X7_leaning 25 [some (.ref o), some (.int w), some (.int r), some (.long b), none, some (.int (nI i))] [] (HP z) K) (fun i b => b * (if z.1 (o + 18) i = 0 then r.toInt64 else (10 - r).toInt64)) 1 n (fun i hi => by
    generalize itr _ i _ = b
    rw [e_X7_leaning_25]
    simp only [↓e_X7_leaning_4, ↓e_X7_leaning_9, ↓e_X7_leaning_14, ↓e_X7_leaning_18, ↓e_X7_leaning_19, ↓e_X7_leaning_31, ↓e_X7_leaning_34, ↓e_X7_leaning_41, ↓e_X7_leaning_46, ↓e_X7_leaning_49, ↓e_X7_leaning_52, ↓e_X7_leaning_57, ↓e_X7_leaning_62, ↓e_X7_leaning_70, g7 ho, rT hT, zps_s, zk_i, zk_r, zk_l, zk_n, hz, nI_lt_iff (show i < 2 ^ 31 by omega) (show n < 2 ^ 31 by omega), lt_lit (n := 10) (x := 10) (by decide) (show i < 2 ^ 31 by omega) (by decide), hi, show i < 10 from by omega, ↓reduceIte, nI_1, nI_cl (show i < 2 ^ 31 by omega), in_nI (show i < 10 by omega) (by decide), true_and]
    by_cases hy : z.1 (o + 18) i = 0 <;> simp only [hy, ↓reduceIte])
  have fin : ∀ r, Ev E d zm_X7_leaning 25 [some (.ref o), some (.int w), some (.int r), some (.long 1), none, some (.int 0)] [] (HP z) K = K (some (.long (leZ z o n r))) (HP z) := fun r => by
    have l := loop r
    rw [nI_0] at l
    rw [l, e_X7_leaning_25]
    simp only [↓e_X7_leaning_4, ↓e_X7_leaning_9, ↓e_X7_leaning_14, ↓e_X7_leaning_18, ↓e_X7_leaning_19, ↓e_X7_leaning_31, ↓e_X7_leaning_34, ↓e_X7_leaning_41, ↓e_X7_leaning_46, ↓e_X7_leaning_49, ↓e_X7_leaning_52, ↓e_X7_leaning_57, ↓e_X7_leaning_62, ↓e_X7_leaning_70, g7 ho, hz, nI_lt_iff (show n < 2 ^ 31 by omega) (show n < 2 ^ 31 by omega), Nat.lt_irrefl, ↓reduceIte, leZ]
  simp only [↓c_X7_leaning, ↓e_X7_leaning_0, ↓e_X7_leaning_4, ↓e_X7_leaning_9, ↓e_X7_leaning_14, ↓e_X7_leaning_18, ↓e_X7_leaning_19, ↓e_X7_leaning_31, ↓e_X7_leaning_34, ↓e_X7_leaning_41, ↓e_X7_leaning_46, ↓e_X7_leaning_49, ↓e_X7_leaning_52, ↓e_X7_leaning_57, ↓e_X7_leaning_62, ↓e_X7_leaning_70, zk_i, zk_r, zk_n, fin, leR]
  by_cases h0 : w = 0
  · simp only [h0, ↓reduceIte]
  · have t1 : ((1 : Int32) = 0) = False := by decide
    by_cases h1 : w = 1 <;> simp only [h0, h1, t1, ↓reduceIte]
def m31 (h : Int64) (x : Int32) : Int64 := 31 * h + x.toInt64
def mcF (z : zS) (o r : Nat) (i : Nat) (h : Int64) : Int64 := m31 (m31 (m31 (m31 (m31 (m31 (m31 (m31 (m31 h (z.1 (o + 4) i)) (z.1 (o + 5) i)) (z.1 (o + 6) i)) (z.1 (o + 7) i)) (z.1 (o + 8) i)) (z.1 (o + 9) (3 * i))) (z.1 (o + 9) (3 * i + 1))) (z.1 (o + 9) (3 * i + 2))) (z.1 r i)
theorem s_mixChildren {o r : Nat} (hS : isS o) (hr : isI r 6) {np nc ns : Nat} {z : zS} (hw : wfS z o np nc ns) (E : zE) (d : Nat) (h0 : Int64) (K : Option Value → zH → Prop) : Cl E d 71 [.ref o, .long h0, .ref r] (HP z) K = K (some (.long (itr (mcF z o r) nc h0))) (HP z) := by
  have ho := hS.1
  have hnc := hw.2.2.2.2.1
  have loop := itr_junk (τ := Option Value) (fun i b x => Ev E d zm_X6_mixChildren 6 [some (.ref o), some (.long h0), none, some (.ref r), some (.long b), none, some (.int (nI i)), x] [] (HP z) K) (mcF z o r) h0 (R := K (some (.long (itr (mcF z o r) nc h0))) (HP z)) nc (fun i x hi => by
    generalize itr _ i _ = b
    rw [e_X6_mixChildren_6]
    simp only [↓e_X6_mixChildren_12, ↓e_X6_mixChildren_15, ↓e_X6_mixChildren_19, ↓e_X6_mixChildren_22, ↓e_X6_mixChildren_32, ↓e_X6_mixChildren_35, ↓e_X6_mixChildren_49, ↓e_X6_mixChildren_52, ↓e_X6_mixChildren_66, ↓e_X6_mixChildren_69, ↓e_X6_mixChildren_83, ↓e_X6_mixChildren_86, ↓e_X6_mixChildren_100, ↓e_X6_mixChildren_103, ↓e_X6_mixChildren_110, ↓e_X6_mixChildren_116, ↓e_X6_mixChildren_126, ↓e_X6_mixChildren_134, ↓e_X6_mixChildren_144, ↓e_X6_mixChildren_154, ↓e_X6_mixChildren_164, g6 ho, rS hS, HP_ri hr, HP_al hr, zps_s, zk_i, zk_r, zk_l, zk_n, hw.2.1, nI_lt_iff (show i < 2 ^ 31 by omega) (show nc < 2 ^ 31 by omega), nI_lt_iff (show i < 2 ^ 31 by omega) (show 6 < 2 ^ 31 by decide), hi, show i < 6 from by omega, ↓reduceIte, Int32.reduceLT, Int32.reduceAdd, nI_3 (show i < 6 by omega), nI_1, nI_cl (show i < 2 ^ 31 by omega), nI_cl (show 3 * i < 2 ^ 31 by omega), nI_cl (show 3 * i + 1 < 2 ^ 31 by omega), nI_cl (show 3 * i + 2 < 2 ^ 31 by omega), in_nI (show i < 6 by omega) (by decide), in_nI (show 3 * i < 18 by omega) (by decide), in_nI (show 3 * i + 1 < 18 by omega) (by decide), in_nI (show 3 * i + 2 < 18 by omega) (by decide), true_and]
    exact ⟨_, rfl⟩) (fun x => by
    rw [e_X6_mixChildren_6]
    simp only [↓e_X6_mixChildren_12, ↓e_X6_mixChildren_15, ↓e_X6_mixChildren_19, ↓e_X6_mixChildren_22, ↓e_X6_mixChildren_32, ↓e_X6_mixChildren_35, ↓e_X6_mixChildren_49, ↓e_X6_mixChildren_52, ↓e_X6_mixChildren_66, ↓e_X6_mixChildren_69, ↓e_X6_mixChildren_83, ↓e_X6_mixChildren_86, ↓e_X6_mixChildren_100, ↓e_X6_mixChildren_103, ↓e_X6_mixChildren_110, ↓e_X6_mixChildren_116, ↓e_X6_mixChildren_126, ↓e_X6_mixChildren_134, ↓e_X6_mixChildren_144, ↓e_X6_mixChildren_154, ↓e_X6_mixChildren_164, g6 ho, hw.2.1, nI_lt_iff (show nc < 2 ^ 31 by omega) (show nc < 2 ^ 31 by omega), Nat.lt_irrefl, ↓reduceIte]) none
  simp only [↓c_X6_mixChildren, ↓e_X6_mixChildren_0, ↓e_X6_mixChildren_12, ↓e_X6_mixChildren_15, ↓e_X6_mixChildren_19, ↓e_X6_mixChildren_22, ↓e_X6_mixChildren_32, ↓e_X6_mixChildren_35, ↓e_X6_mixChildren_49, ↓e_X6_mixChildren_52, ↓e_X6_mixChildren_66, ↓e_X6_mixChildren_69, ↓e_X6_mixChildren_83, ↓e_X6_mixChildren_86, ↓e_X6_mixChildren_100, ↓e_X6_mixChildren_103, ↓e_X6_mixChildren_110, ↓e_X6_mixChildren_116, ↓e_X6_mixChildren_126, ↓e_X6_mixChildren_134, ↓e_X6_mixChildren_144, ↓e_X6_mixChildren_154, ↓e_X6_mixChildren_164, zk_i, zk_r, zk_n, zk_l]
  rw [nI_0] at loop
  exact loop
