/-! Script's writers -/
theorem plB_c {z z' : zS} {o : Nat} (h1 : z.1 o = z'.1 o) (h2 : z.1 (o + 11) = z'.1 (o + 11)) : plB z o = plB z' o := by
  funext s p
  unfold plB
  rw [h1, h2]
theorem scB_c {z z' : zS} {o : Nat} (h1 : z.1 o = z'.1 o) (h2 : z.1 (o + 11) = z'.1 (o + 11)) : scB z o = scB z' o := by
  funext p
  unfold scB
  rw [plB_c h1 h2]
theorem clB_c {z z' : zS} {o : Nat} (h1 : z.1 o = z'.1 o) (h2 : z.1 (o + 11) = z'.1 (o + 11)) (ns ch : Nat) (a b : Int32) : clB z o ns ch a b = clB z' o ns ch a b := by
  unfold clB
  rw [scB_c h1 h2]
/-- the row of those that a part clashes with, as bits -/
def clrow (z : zS) (o np ns ch : Nat) (a : Nat) : Int32 := itr (fun b x => if a ≠ b ∧ clB z o ns ch (nI a) (nI b) = true then x ||| (1 <<< (nI b &&& 31)) else x) np 0
theorem s_fillClashes {o r : Nat} (hS : isS o) (hr : isI r 6) (h1 : o ≠ r) (h2 : o + 11 ≠ r) {np nc ns : Nat} {z : zS} (hw : wfS z o np nc ns) (E : zE) (d : Nat) {ch : Nat} (hch : ch ≤ 3) (K : Option Value → zH → Prop) : Cl E (d + 4) 69 [.ref o, .ref r, .int (nI ch)] (HP z) K = K none (HP (setR z.1 r (itr (fun a g => upd g a (clrow z o np ns ch a)) np (z.1 r)), z.2)) := by
  have ho := hS.1
  have hnp := hw.2.2.2.1
  have hw' : ∀ g, wfS (setR z.1 r g, z.2) o np nc ns := fun g => by
    unfold wfS
    simp only [setR_n h1]
    exact hw
  have hcl : ∀ (g : Nat → Int32) (a b : Int32) (K : Option Value → zH → Prop), Cl E (d + 3) 68 [.ref o, .int a, .int b, .int (nI ch)] (HP (setR z.1 r g, z.2)) K = K (some (.int (bI (clB z o ns ch a b)))) (HP (setR z.1 r g, z.2)) := fun g a b K => by
    rw [s_clashing hS (hw' g) E d a b hch K, clB_c (z' := z) (setR_n h1 _ _) (setR_n h2 _ _)]
  have inner : ∀ (a : Nat) (g : Nat → Int32), a < np → Ev E (d + 4) zm_X6_fillClashes 23 [some (.ref o), some (.ref r), some (.int (nI ch)), some (.int (nI a)), some (.int 0)] [] (HP (setR z.1 r (upd g a 0), z.2)) K = Ev E (d + 4) zm_X6_fillClashes 2 [some (.ref o), some (.ref r), some (.int (nI ch)), some (.int (nI (a + 1))), some (.int (nI np))] [] (HP (setR z.1 r (upd g a (clrow z o np ns ch a)), z.2)) K := by
    intro a g ha
    have loop := itr_eq (fun b x => Ev E (d + 4) zm_X6_fillClashes 23 [some (.ref o), some (.ref r), some (.int (nI ch)), some (.int (nI a)), some (.int (nI b))] [] (HP (setR z.1 r (upd g a x), z.2)) K) (fun b x => if a ≠ b ∧ clB z o ns ch (nI a) (nI b) = true then x ||| (1 <<< (nI b &&& 31)) else x) 0 np (fun b hb => by
      generalize itr _ b _ = x
      rw [e_X6_fillClashes_23]
      simp only [↓e_X6_fillClashes_7, ↓e_X6_fillClashes_10, ↓e_X6_fillClashes_13, ↓e_X6_fillClashes_16, ↓e_X6_fillClashes_20, ↓e_X6_fillClashes_29, ↓e_X6_fillClashes_32, ↓e_X6_fillClashes_38, ↓e_X6_fillClashes_46, ↓e_X6_fillClashes_49, ↓e_X6_fillClashes_53, ↓e_X6_fillClashes_59, ↓e_X6_fillClashes_65, ↓e_X6_fillClashes_71, g6 ho, v6 ho, hcl, HP_ri hr, HP_wi hr, zps_s, bI_0, zk_i, zk_r, setR_n h1, setR_s, setR_2, set2_R, upd_s, upd_2, hw.1, nI_lt_iff (show b < 2 ^ 31 by omega) (show np < 2 ^ 31 by omega), hb, ↓reduceIte, nI_1, nI_cl (show a < 2 ^ 31 by omega), in_nI (show a < 6 by omega) (by decide), true_and, nI_eq (show a < 2 ^ 31 by omega) (show b < 2 ^ 31 by omega)]
      by_cases hab : a = b
      · simp [hab]
      · cases clB z o ns ch (nI a) (nI b) <;> simp [hab])
    rw [nI_0] at loop
    rw [loop, e_X6_fillClashes_23]
    simp only [↓e_X6_fillClashes_7, ↓e_X6_fillClashes_10, ↓e_X6_fillClashes_13, ↓e_X6_fillClashes_16, ↓e_X6_fillClashes_20, ↓e_X6_fillClashes_29, ↓e_X6_fillClashes_32, ↓e_X6_fillClashes_38, ↓e_X6_fillClashes_46, ↓e_X6_fillClashes_49, ↓e_X6_fillClashes_53, ↓e_X6_fillClashes_59, ↓e_X6_fillClashes_65, ↓e_X6_fillClashes_71, g6 ho, zk_i, zk_r, setR_n h1, hw.1, nI_lt_iff (show np < 2 ^ 31 by omega) (show np < 2 ^ 31 by omega), Nat.lt_irrefl, ↓reduceIte, nI_1, clrow]
  have outer := itr_eq (fun a (g : (Nat → Int32) × Option Value) => Ev E (d + 4) zm_X6_fillClashes 2 [some (.ref o), some (.ref r), some (.int (nI ch)), some (.int (nI a)), g.2] [] (HP (setR z.1 r g.1, z.2)) K) (fun a g => (upd g.1 a (clrow z o np ns ch a), some (.int (nI np)))) (z.1 r, none) np (fun a ha => by
    generalize itr _ a _ = g
    rw [e_X6_fillClashes_2]
    simp only [↓e_X6_fillClashes_7, ↓e_X6_fillClashes_10, ↓e_X6_fillClashes_13, ↓e_X6_fillClashes_16, ↓e_X6_fillClashes_20, ↓e_X6_fillClashes_29, ↓e_X6_fillClashes_32, ↓e_X6_fillClashes_38, ↓e_X6_fillClashes_46, ↓e_X6_fillClashes_49, ↓e_X6_fillClashes_53, ↓e_X6_fillClashes_59, ↓e_X6_fillClashes_65, ↓e_X6_fillClashes_71, g6 ho, HP_al hr, HP_wi hr, zk_i, zk_r, setR_n h1, setR_s, setR_2, set2_R, hw.1, nI_lt_iff (show a < 2 ^ 31 by omega) (show np < 2 ^ 31 by omega), nI_lt_iff (show a < 2 ^ 31 by omega) (show 6 < 2 ^ 31 by decide), ha, eq_true (show a < 6 by omega), ↓reduceIte, nI_cl (show a < 2 ^ 31 by omega), in_nI (show a < 6 by omega) (by decide), true_and]
    exact inner a g.1 ha)
  have hfst : ∀ n, (itr (fun a (g : (Nat → Int32) × Option Value) => (upd g.1 a (clrow z o np ns ch a), some (Value.int (nI np)))) n (z.1 r, none)).1 = itr (fun a g => upd g a (clrow z o np ns ch a)) n (z.1 r) := by
    intro n
    induction n with
    | zero => rfl
    | succ n ih =>
      simp only [itr, ih]
  simp only [↓c_X6_fillClashes, ↓e_X6_fillClashes_0, ↓e_X6_fillClashes_7, ↓e_X6_fillClashes_10, ↓e_X6_fillClashes_13, ↓e_X6_fillClashes_16, ↓e_X6_fillClashes_20, ↓e_X6_fillClashes_23, ↓e_X6_fillClashes_29, ↓e_X6_fillClashes_32, ↓e_X6_fillClashes_38, ↓e_X6_fillClashes_46, ↓e_X6_fillClashes_49, ↓e_X6_fillClashes_53, ↓e_X6_fillClashes_59, ↓e_X6_fillClashes_65, ↓e_X6_fillClashes_71, zk_i, zk_r, zk_n]
  rw [nI_0] at outer
  simp only [setR_id] at outer
  rw [outer, e_X6_fillClashes_2]
  simp only [↓e_X6_fillClashes_7, ↓e_X6_fillClashes_10, ↓e_X6_fillClashes_13, ↓e_X6_fillClashes_16, ↓e_X6_fillClashes_20, ↓e_X6_fillClashes_29, ↓e_X6_fillClashes_32, ↓e_X6_fillClashes_38, ↓e_X6_fillClashes_46, ↓e_X6_fillClashes_49, ↓e_X6_fillClashes_53, ↓e_X6_fillClashes_59, ↓e_X6_fillClashes_65, ↓e_X6_fillClashes_71, g6 ho, setR_n h1, hw.1, nI_lt_iff (show np < 2 ^ 31 by omega) (show np < 2 ^ 31 by omega), Nat.lt_irrefl, ↓reduceIte, hfst]
/-- a script with nothing in it -/
theorem s_empty {o : Nat} (hS : isS o) (E : zE) (d : Nat) (z : zS) (K : Option Value → zH → Prop) : Cl E d 59 [.ref o] (HP z) K = K none (HP (setR (setR z.1 o (upd (upd (upd (z.1 o) 0 0) 4 0) 11 0)) (o + 9) (itr (fun i g => upd g i (-1)) 18 (z.1 (o + 9))), z.2)) := by
  have ho := hS.1
  have h9 : o + 9 ≠ o := by omega
  have h9' : o ≠ o + 9 := by omega
  generalize hf : setR z.1 o (upd (upd (upd (z.1 o) 0 0) 4 0) 11 0) = f
  have hf9 : f (o + 9) = z.1 (o + 9) := by rw [← hf, setR_n h9]
  have loop := itr_eq (fun i g => Ev E d zm_X6_empty 17 [some (.ref o), some (.int (nI i))] [] (HP (setR f (o + 9) g, z.2)) K) (fun i g => upd g i (-1)) (z.1 (o + 9)) 18 (fun i hi => by
    generalize itr _ i _ = g
    rw [e_X6_empty_17]
    simp only [↓e_X6_empty_5, ↓e_X6_empty_10, ↓e_X6_empty_15, ↓e_X6_empty_22, ↓e_X6_empty_23, ↓e_X6_empty_26, ↓e_X6_empty_30, ↓e_X6_empty_33, ↓e_X6_empty_39, g6 ho, wS hS, zk_i, zk_r, setR_s, setR_2, set2_R, nI_lt_iff (show i < 2 ^ 31 by omega) (show 18 < 2 ^ 31 by decide), hi, ↓reduceIte, nI_1, nI_cl (show i < 2 ^ 31 by omega), in_nI hi (by decide), true_and])
  simp only [↓c_X6_empty, ↓e_X6_empty_0, ↓e_X6_empty_5, ↓e_X6_empty_10, ↓e_X6_empty_15, ↓e_X6_empty_22, ↓e_X6_empty_23, ↓e_X6_empty_26, ↓e_X6_empty_30, ↓e_X6_empty_33, ↓e_X6_empty_39, p6 ho, zk_i, zk_r, zk_n, set2_R, setR_s, setR_2, hf]
  rw [nI_0, ← hf9, setR_id, hf9] at loop
  rw [loop, e_X6_empty_17]
  simp only [↓e_X6_empty_5, ↓e_X6_empty_10, ↓e_X6_empty_15, ↓e_X6_empty_22, ↓e_X6_empty_23, ↓e_X6_empty_26, ↓e_X6_empty_30, ↓e_X6_empty_33, ↓e_X6_empty_39, g6 ho, wS hS, nI_lt_iff (show 18 < 2 ^ 31 by decide) (show 18 < 2 ^ 31 by decide), Nat.lt_irrefl, ↓reduceIte]
