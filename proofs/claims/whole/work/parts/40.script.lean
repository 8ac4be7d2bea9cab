/-! Script's methods -/
theorem s_hasPart {o : Nat} (ho : isO6 o) (E : zE) (d : Nat) (z : zS) (p : Int32) (K : Option Value → zH → Prop) : Cl E d 61 [.ref o, .int p] (HP z) K = K (some (.int (bI (inB p (z.1 o 0))))) (HP z) := by
  simp only [↓c_X6_hasPart, ↓e_X6_hasPart_0, ↓e_X6_hasPart_4, ↓e_X6_hasPart_9, ↓e_X6_hasPart_12, ↓e_X6_hasPart_16, ↓e_X6_hasPart_17, g6 ho]
  by_cases h1 : p < 0 <;> by_cases h2 : p < z.1 o 0 <;> simp [bI, inB, h1, h2]
theorem s_hasChild {o : Nat} (ho : isO6 o) (E : zE) (d : Nat) (z : zS) (p : Int32) (K : Option Value → zH → Prop) : Cl E d 62 [.ref o, .int p] (HP z) K = K (some (.int (bI (inB p (z.1 o 4))))) (HP z) := by
  simp only [↓c_X6_hasChild, ↓e_X6_hasChild_0, ↓e_X6_hasChild_4, ↓e_X6_hasChild_9, ↓e_X6_hasChild_12, ↓e_X6_hasChild_16, ↓e_X6_hasChild_17, g6 ho]
  by_cases h1 : p < 0 <;> by_cases h2 : p < z.1 o 4 <;> simp [bI, inB, h1, h2]
theorem s_hasScene {o : Nat} (ho : isO6 o) (E : zE) (d : Nat) (z : zS) (p : Int32) (K : Option Value → zH → Prop) : Cl E d 63 [.ref o, .int p] (HP z) K = K (some (.int (bI (inB p (z.1 o 11))))) (HP z) := by
  simp only [↓c_X6_hasScene, ↓e_X6_hasScene_0, ↓e_X6_hasScene_4, ↓e_X6_hasScene_9, ↓e_X6_hasScene_12, ↓e_X6_hasScene_16, ↓e_X6_hasScene_17, g6 ho]
  by_cases h1 : p < 0 <;> by_cases h2 : p < z.1 o 11 <;> simp [bI, inB, h1, h2]
/-- scene s has part p -/
def bitB (x p : Int32) : Bool := decide (¬ x >>> (p &&& 31) &&& 1 = 0)
theorem bitB_f {x p : Int32} : (bitB x p = false) = (x >>> (p &&& 31) &&& 1 = 0) := by unfold bitB; simp
def plB (z : zS) (o : Nat) (s p : Int32) : Bool := inB s (z.1 o 11) && inB p (z.1 o 0) && bitB (z.1 (o + 11) s.toNatClampNeg) p
theorem s_plays {o : Nat} (hS : isS o) {np nc ns : Nat} {z : zS} (hw : wfS z o np nc ns) (E : zE) (d : Nat) (s p : Int32) (K : Option Value → zH → Prop) : Cl E (d + 1) 64 [.ref o, .int s, .int p] (HP z) K = K (some (.int (bI (plB z o s p)))) (HP z) := by
  have ho := hS.1
  simp only [↓c_X6_plays, ↓e_X6_plays_0, ↓e_X6_plays_5, ↓e_X6_plays_8, ↓e_X6_plays_13, ↓e_X6_plays_16, ↓e_X6_plays_20, ↓e_X6_plays_22, ↓e_X6_plays_29, ↓e_X6_plays_33, ↓e_X6_plays_34, g6 ho, v6 ho, s_hasScene ho, s_hasPart ho, zps_s, rS hS, bI_0, ← bitB_f, plB]
  cases h1 : inB s (z.1 o 11) with
  | false => simp [bI]
  | true =>
    have hv : vp_in s 7 := in_inB hw.2.2.1 hw.2.2.2.2.2 (by decide) h1
    cases inB p (z.1 o 0) <;> cases bitB (z.1 (o + 11) s.toNatClampNeg) p <;> simp [bI, hv]
/-- the place of p among three wishes -/
def rkF (a b c p : Int32) : Int32 := if a = p then 0 else if b = p then 1 else if c = p then 2 else 3
def rkZ (z : zS) (o : Nat) (c p : Int32) : Int32 := if (inB c (z.1 o 4) && inB p (z.1 o 0)) = true then rkF (z.1 (o + 9) (c * 3).toNatClampNeg) (z.1 (o + 9) (c * 3 + 1).toNatClampNeg) (z.1 (o + 9) (c * 3 + 2).toNatClampNeg) p else 3
theorem nI_3 {c : Nat} (hc : c < 6) : nI c * 3 = nI (3 * c) ∧ nI (3 * c) + 0 = nI (3 * c) ∧ nI (3 * c) + 1 = nI (3 * c + 1) ∧ nI (3 * c) + 2 = nI (3 * c + 2) := by
  revert c
  decide
theorem s_rankOf {o : Nat} (hS : isS o) {np nc ns : Nat} {z : zS} (hw : wfS z o np nc ns) (E : zE) (d : Nat) (c p : Int32) (K : Option Value → zH → Prop) : Cl E (d + 1) 65 [.ref o, .int c, .int p] (HP z) K = K (some (.int (rkZ z o c p))) (HP z) := by
  have ho := hS.1
  simp only [↓c_X6_rankOf, ↓e_X6_rankOf_0, ↓e_X6_rankOf_5, ↓e_X6_rankOf_8, ↓e_X6_rankOf_13, ↓e_X6_rankOf_16, ↓e_X6_rankOf_18, ↓e_X6_rankOf_20, ↓e_X6_rankOf_25, ↓e_X6_rankOf_29, ↓e_X6_rankOf_35, ↓e_X6_rankOf_39, ↓e_X6_rankOf_41, ↓e_X6_rankOf_47, g6 ho, v6 ho, s_hasChild ho, s_hasPart ho, zps_s, rS hS, bI_0, zk_i, zk_r, ↓reduceIte, Int32.reduceLT, Int32.reduceAdd, rkZ]
  cases h1 : inB c (z.1 o 4) with
  | false => simp
  | true =>
    obtain ⟨j, hj, rfl⟩ := of_inB hw.2.1 (by have := hw.2.2.2.2.1; omega) h1
    have hj6 : j < 6 := by have := hw.2.2.2.2.1; omega
    obtain ⟨e0, e1, e2, e3⟩ := nI_3 hj6
    rw [e0, e1, e2, e3]
    simp only [in_nI (show 3 * j < 18 by omega) (by decide), in_nI (show 3 * j + 1 < 18 by omega) (by decide), in_nI (show 3 * j + 2 < 18 by omega) (by decide), rkF]
    cases inB p (z.1 o 0) with
    | false => simp
    | true =>
      simp
      split
      · rfl
      · split
        · rfl
        · split <;> rfl
/-- FIT, by a part's class -/
def fitF (kind voice need learn dread rk : Int32) : Int32 :=
  let wished := 2 * (3 - rk)
  let far := if voice - need < 0 then 0 - (voice - need) else voice - need
  let plain := 10 - far + wished
  let large := if 0 < plain + learn - dread then plain + learn - dread else 0
  let small := if 5 < plain then plain else 5
  if kind = 0 then plain else if kind = 1 then plain + wished else if kind = 2 then large else if kind = 3 then small else if kind = 4 then small / 2 else if kind = 5 then small + dread else if kind = 6 then large / 2 else 0
def fitZ (z : zS) (o : Nat) (c p : Int32) : Int32 := if (inB c (z.1 o 4) && inB p (z.1 o 0)) = true then fitF (z.1 (o + 1) p.toNatClampNeg) (z.1 (o + 6) c.toNatClampNeg) (z.1 (o + 3) p.toNatClampNeg) (z.1 (o + 4) c.toNatClampNeg) (z.1 (o + 7) c.toNatClampNeg) (rkZ z o c p) else 0
theorem s_fitOf {o : Nat} (hS : isS o) {np nc ns : Nat} {z : zS} (hw : wfS z o np nc ns) (E : zE) (d : Nat) (c p : Int32) (K : Option Value → zH → Prop) : Cl E (d + 2) 66 [.ref o, .int c, .int p] (HP z) K = K (some (.int (fitZ z o c p))) (HP z) := by
  have ho := hS.1
  simp only [↓c_X6_fitOf, ↓e_X6_fitOf_0, ↓e_X6_fitOf_5, ↓e_X6_fitOf_8, ↓e_X6_fitOf_13, ↓e_X6_fitOf_16, ↓e_X6_fitOf_18, ↓e_X6_fitOf_26, ↓e_X6_fitOf_35, ↓e_X6_fitOf_37, ↓e_X6_fitOf_41, ↓e_X6_fitOf_43, ↓e_X6_fitOf_59, ↓e_X6_fitOf_61, ↓e_X6_fitOf_66, ↓e_X6_fitOf_68, ↓e_X6_fitOf_86, ↓e_X6_fitOf_88, ↓e_X6_fitOf_132, ↓e_X6_fitOf_135, ↓e_X6_fitOf_140, ↓e_X6_fitOf_143, ↓e_X6_fitOf_146, ↓e_X6_fitOf_150, ↓e_X6_fitOf_151, ↓e_X6_fitOf_157, ↓e_X6_fitOf_159, ↓e_X6_fitOf_161, ↓e_X6_fitOf_165, ↓e_X6_fitOf_166, g6 ho, v6 ho, s_hasChild ho, s_hasPart ho, s_rankOf hS hw, zps_s, rS hS, bI_0, zk_i, zk_r, zk_n, ↓reduceIte, Int32.reduceLT, Int32.reduceAdd, Ev_sw0, Ev_sw1, fitZ]
  cases h1 : inB c (z.1 o 4) with
  | false => simp
  | true =>
    cases h2 : inB p (z.1 o 0) with
    | false => simp
    | true =>
      have hc : vp_in c 6 = True := eq_true (in_inB hw.2.1 hw.2.2.2.2.1 (by decide) h1)
      have hp : vp_in p 6 = True := eq_true (in_inB hw.1 hw.2.2.2.1 (by decide) h2)
      simp only [hc, hp, true_and, Bool.true_eq_false, if_false, Bool.and_self, if_true, fitF, Kite]
      have h20 : (¬ (2 : Int32) = 0) = True := by decide
      simp only [h20, true_and]
/-- the scenes of a part, as bits -/
def scB (z : zS) (o : Nat) (p : Int32) : Nat → Int32 → Int32 := itr (fun i b => if plB z o (nI i) p = true then b ||| (1 <<< (nI i &&& 31)) else b)
theorem s_scenesOf {o : Nat} (hS : isS o) {np nc ns : Nat} {z : zS} (hw : wfS z o np nc ns) (E : zE) (d : Nat) (p : Int32) (K : Option Value → zH → Prop) : Cl E (d + 2) 67 [.ref o, .int p] (HP z) K = K (some (.int (scB z o p ns 0))) (HP z) := by
  have ho := hS.1
  have hns := hw.2.2.2.2.2
  have loop := itr_eq (fun i b => Ev E (d + 2) zm_X6_scenesOf 4 [some (.ref o), some (.int p), some (.int b), some (.int (nI i))] [] (HP z) K) (fun i b => if plB z o (nI i) p = true then b ||| (1 <<< (nI i &&& 31)) else b) 0 ns (fun i hi => by
    generalize itr _ i _ = b
    rw [e_X6_scenesOf_4]
    simp only [↓e_X6_scenesOf_9, ↓e_X6_scenesOf_12, ↓e_X6_scenesOf_18, ↓e_X6_scenesOf_21, ↓e_X6_scenesOf_27, ↓e_X6_scenesOf_33, g6 ho, v6 ho, s_plays hS hw, zps_s, bI_0, zk_i, zk_r, hw.2.2.1, nI_lt_iff (show i < 2 ^ 31 by omega) (show ns < 2 ^ 31 by omega), hi, ↓reduceIte, nI_1]
    cases plB z o (nI i) p <;> simp)
  simp only [↓c_X6_scenesOf, ↓e_X6_scenesOf_0, ↓e_X6_scenesOf_9, ↓e_X6_scenesOf_12, ↓e_X6_scenesOf_18, ↓e_X6_scenesOf_21, ↓e_X6_scenesOf_27, ↓e_X6_scenesOf_33, zk_i, zk_r, zk_n, scB]
  rw [nI_0] at loop
  rw [loop, e_X6_scenesOf_4]
  simp only [↓e_X6_scenesOf_9, ↓e_X6_scenesOf_12, ↓e_X6_scenesOf_18, ↓e_X6_scenesOf_21, ↓e_X6_scenesOf_27, ↓e_X6_scenesOf_33, g6 ho, hw.2.2.1, nI_lt_iff (show ns < 2 ^ 31 by omega) (show ns < 2 ^ 31 by omega), Nat.lt_irrefl, ↓reduceIte]
/-- a part's scenes and those near them -/
def nearB (sa : Int32) (ch : Nat) : Int32 := itr (fun i b => b ||| (sa <<< (nI (i + 1) &&& 31) ||| sa >>> (nI (i + 1) &&& 31))) ch sa
def clB (z : zS) (o ns ch : Nat) (a b : Int32) : Bool := decide (¬ nearB (scB z o a ns 0) ch &&& scB z o b ns 0 = 0)
theorem clB_f {z : zS} {o ns ch : Nat} {a b : Int32} : (clB z o ns ch a b = false) = (nearB (scB z o a ns 0) ch &&& scB z o b ns 0 = 0) := by unfold clB; simp
theorem nI_o1 : nI (0 + 1) = 1 := by decide
theorem s_clashing {o : Nat} (hS : isS o) {np nc ns : Nat} {z : zS} (hw : wfS z o np nc ns) (E : zE) (d : Nat) (a b : Int32) {ch : Nat} (hch : ch ≤ 3) (K : Option Value → zH → Prop) : Cl E (d + 3) 68 [.ref o, .int a, .int b, .int (nI ch)] (HP z) K = K (some (.int (bI (clB z o ns ch a b)))) (HP z) := by
  have ho := hS.1
  have loop := itr_eq (fun i b' => Ev E (d + 3) zm_X6_clashing 10 [some (.ref o), some (.int a), some (.int b), some (.int (nI ch)), some (.int b'), some (.int (nI (i + 1)))] [] (HP z) K) (fun i b => b ||| (scB z o a ns 0 <<< (nI (i + 1) &&& 31) ||| scB z o a ns 0 >>> (nI (i + 1) &&& 31))) (scB z o a ns 0) ch (fun i hi => by
    generalize itr _ i _ = b'
    rw [e_X6_clashing_10]
    simp only [↓e_X6_clashing_5, ↓e_X6_clashing_16, ↓e_X6_clashing_23, ↓e_X6_clashing_31, ↓e_X6_clashing_44, ↓e_X6_clashing_51, ↓e_X6_clashing_55, ↓e_X6_clashing_59, ↓e_X6_clashing_60, g6 ho, v6 ho, s_scenesOf hS hw, zps_s, zk_i, zk_r, nI_lt_iff (show ch < 2 ^ 31 by omega) (show i + 1 < 2 ^ 31 by omega), eq_false (show ¬ ch < i + 1 by omega), ↓reduceIte, nI_1])
  simp only [↓c_X6_clashing, ↓e_X6_clashing_0, ↓e_X6_clashing_5, ↓e_X6_clashing_16, ↓e_X6_clashing_23, ↓e_X6_clashing_31, ↓e_X6_clashing_44, ↓e_X6_clashing_51, ↓e_X6_clashing_55, ↓e_X6_clashing_59, ↓e_X6_clashing_60, g6 ho, v6 ho, s_scenesOf hS hw, zps_s, zk_i, zk_r, zk_n]
  rw [nI_o1] at loop
  rw [loop, e_X6_clashing_10]
  simp only [↓e_X6_clashing_5, ↓e_X6_clashing_16, ↓e_X6_clashing_23, ↓e_X6_clashing_31, ↓e_X6_clashing_44, ↓e_X6_clashing_51, ↓e_X6_clashing_55, ↓e_X6_clashing_59, ↓e_X6_clashing_60, g6 ho, v6 ho, s_scenesOf hS hw, zps_s, zk_i, zk_r, nI_lt_iff (show ch < 2 ^ 31 by omega) (show ch + 1 < 2 ^ 31 by omega), eq_true (show ch < ch + 1 by omega), ↓reduceIte]
  have e : (itr (fun i b => b ||| (scB z o a ns 0 <<< (nI (i + 1) &&& 31) ||| scB z o a ns 0 >>> (nI (i + 1) &&& 31))) ch (scB z o a ns 0) &&& scB z o b ns 0 = 0) = (clB z o ns ch a b = false) := clB_f.symm
  simp only [e]
  cases clB z o ns ch a b <;> simp [bI]
/-- the minutes of all scenes of a part -/
def minZ (z : zS) (o : Nat) (p : Int32) : Nat → Int32 → Int32 := itr (fun i b => if plB z o (nI i) p = true then b + z.1 (o + 10) i else b)
theorem s_minutesOf {o : Nat} (hS : isS o) {np nc ns : Nat} {z : zS} (hw : wfS z o np nc ns) (E : zE) (d : Nat) (p : Int32) (K : Option Value → zH → Prop) : Cl E (d + 2) 70 [.ref o, .int p] (HP z) K = K (some (.int (minZ z o p ns 0))) (HP z) := by
  have ho := hS.1
  have hns := hw.2.2.2.2.2
  have loop := itr_eq (fun i b => Ev E (d + 2) zm_X6_minutesOf 4 [some (.ref o), some (.int p), some (.int b), some (.int (nI i))] [] (HP z) K) (fun i b => if plB z o (nI i) p = true then b + z.1 (o + 10) i else b) 0 ns (fun i hi => by
    generalize itr _ i _ = b
    rw [e_X6_minutesOf_4]
    simp only [↓e_X6_minutesOf_9, ↓e_X6_minutesOf_12, ↓e_X6_minutesOf_18, ↓e_X6_minutesOf_21, ↓e_X6_minutesOf_26, ↓e_X6_minutesOf_28, ↓e_X6_minutesOf_30, ↓e_X6_minutesOf_36, g6 ho, v6 ho, rS hS, s_plays hS hw, zps_s, bI_0, zk_i, zk_r, hw.2.2.1, nI_lt_iff (show i < 2 ^ 31 by omega) (show ns < 2 ^ 31 by omega), hi, ↓reduceIte, nI_1, nI_cl (show i < 2 ^ 31 by omega), in_nI (show i < 7 by omega) (by decide), true_and]
    cases plB z o (nI i) p <;> simp)
  simp only [↓c_X6_minutesOf, ↓e_X6_minutesOf_0, ↓e_X6_minutesOf_9, ↓e_X6_minutesOf_12, ↓e_X6_minutesOf_18, ↓e_X6_minutesOf_21, ↓e_X6_minutesOf_26, ↓e_X6_minutesOf_28, ↓e_X6_minutesOf_30, ↓e_X6_minutesOf_36, zk_i, zk_r, zk_n, minZ]
  rw [nI_0] at loop
  rw [loop, e_X6_minutesOf_4]
  simp only [↓e_X6_minutesOf_9, ↓e_X6_minutesOf_12, ↓e_X6_minutesOf_18, ↓e_X6_minutesOf_21, ↓e_X6_minutesOf_26, ↓e_X6_minutesOf_28, ↓e_X6_minutesOf_30, ↓e_X6_minutesOf_36, g6 ho, hw.2.2.1, nI_lt_iff (show ns < 2 ^ 31 by omega) (show ns < 2 ^ 31 by omega), Nat.lt_irrefl, ↓reduceIte]
/-- the digest goes over the scenes -/
def mxS (z : zS) (o : Nat) : Nat → Int64 → Int64 := itr (fun i h => 31 * (31 * h + (z.1 (o + 10) i).toInt64) + (z.1 (o + 11) i).toInt64)
theorem s_mixScenes {o : Nat} (hS : isS o) {np nc ns : Nat} {z : zS} (hw : wfS z o np nc ns) (E : zE) (d : Nat) (h0 : Int64) (K : Option Value → zH → Prop) : Cl E d 72 [.ref o, .long h0] (HP z) K = K (some (.long (mxS z o ns h0))) (HP z) := by
  have ho := hS.1
  have hns := hw.2.2.2.2.2
  have loop := itr_eq (fun i b => Ev E d zm_X6_mixScenes 5 [some (.ref o), some (.long h0), none, some (.long b), none, some (.int (nI i))] [] (HP z) K) (fun i h => 31 * (31 * h + (z.1 (o + 10) i).toInt64) + (z.1 (o + 11) i).toInt64) h0 ns (fun i hi => by
    generalize itr _ i _ = b
    rw [e_X6_mixScenes_5]
    simp only [↓e_X6_mixScenes_11, ↓e_X6_mixScenes_14, ↓e_X6_mixScenes_23, ↓e_X6_mixScenes_26, ↓e_X6_mixScenes_38, ↓e_X6_mixScenes_41, ↓e_X6_mixScenes_50, g6 ho, v6 ho, rS hS, zps_s, bI_0, zk_i, zk_r, zk_n, zk_l, hw.2.2.1, nI_lt_iff (show i < 2 ^ 31 by omega) (show ns < 2 ^ 31 by omega), hi, ↓reduceIte, nI_1, nI_cl (show i < 2 ^ 31 by omega), in_nI (show i < 7 by omega) (by decide), true_and])
  simp only [↓c_X6_mixScenes, ↓e_X6_mixScenes_0, ↓e_X6_mixScenes_11, ↓e_X6_mixScenes_14, ↓e_X6_mixScenes_23, ↓e_X6_mixScenes_26, ↓e_X6_mixScenes_38, ↓e_X6_mixScenes_41, ↓e_X6_mixScenes_50, zk_i, zk_r, zk_n, zk_l, mxS]
  rw [nI_0] at loop
  rw [loop, e_X6_mixScenes_5]
  simp only [↓e_X6_mixScenes_11, ↓e_X6_mixScenes_14, ↓e_X6_mixScenes_23, ↓e_X6_mixScenes_26, ↓e_X6_mixScenes_38, ↓e_X6_mixScenes_41, ↓e_X6_mixScenes_50, g6 ho, hw.2.2.1, nI_lt_iff (show ns < 2 ^ 31 by omega) (show ns < 2 ^ 31 by omega), Nat.lt_irrefl, ↓reduceIte]
