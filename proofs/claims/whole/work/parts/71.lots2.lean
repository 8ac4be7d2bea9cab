/-! class LotDraw: run -/
def ruF (z : zS) (nc np : Nat) (i : Nat) (s : (Nat → Int32) × Int32) : (Nat → Int32) × Int32 := if z.1 76 2 = 0 then ofF z nc np (i / 3) (i % 3) s else ofF z nc np (i % 6) (i / 6) s
def ruZ (z : zS) (nc np : Nat) : (Nat → Int32) × Int32 := itr (ruF z nc np) 18 (itr (fun i g => upd g i (-1)) 6 (z.1 77), 0)
theorem l_run (E : zE) (d : Nat) {nc np : Nat} (hnc : nc ≤ 6) {z : zS} (h4 : z.1 78 4 = nI nc) (h0 : z.1 78 0 = nI np) (K : Option Value → zH → Prop) : Cl E (d + 2) 30 [.ref 76] (HP z) K = K none (HP (setR (setR z.1 77 (ruZ z nc np).1) 76 (upd (z.1 76) 3 (ruZ z nc np).2), z.2)) := by
  have n4 : (90 : Nat) ≠ 76 := by decide
  have n5 : (77 : Nat) ≠ 76 := by decide
  have t3 : ((3 : Int32) = 0) = False := by decide
  have t6 : ((6 : Int32) = 0) = False := by decide
  have e3 : (3 : Int32) = nI 3 := by decide
  have e6 : (6 : Int32) = nI 6 := by decide
  have sw : ∀ (g r q : Nat → Int32), setR (setR (setR z.1 77 g) 76 r) 77 q = setR (setR z.1 77 q) 76 r := fun g r q => by
    funext a
    unfold setR
    by_cases e1 : a = 77
    · subst e1
      simp
    · simp [e1]
  have sx : ∀ r : Nat → Int32, setR (setR z.1 77 (z.1 77)) 76 r = setR z.1 76 r := fun r => by rw [setR_id]
  have loop1 := itr_eq (fun i g => Ev E (d + 2) zm_X3_run 7 [some (.ref 76), some (.int (nI i))] [] (HP (setR (setR z.1 77 g) 76 (upd (z.1 76) 3 0), z.2)) K) (fun i g => upd g i (-1)) (z.1 77) 6 (fun i hi => by
    generalize itr _ i _ = g
    rw [e_X3_run_7]
    simp only [↓e_X3_run_5, ↓e_X3_run_13, ↓e_X3_run_17, ↓e_X3_run_20, ↓e_X3_run_26, ↓e_X3_run_33, ↓e_X3_run_34, ↓e_X3_run_37, ↓e_X3_run_41, ↓e_X3_run_44, ↓e_X3_run_48, ↓e_X3_run_51, ↓e_X3_run_54, ↓e_X3_run_57, ↓e_X3_run_62, ↓e_X3_run_66, ↓e_X3_run_69, ↓e_X3_run_75, g3 o3_76, Nat.reduceAdd, wi_k i77 hi (by decide), set2_R, setR_n n5, setR_s, sw, zk_i, zk_r, zk_n, lt_lit (n := 6) (x := 6) (by decide) (show i < 2 ^ 31 by omega) (by decide), hi, ↓reduceIte, nI_1])
  have loop2 : ∀ s : (Nat → Int32) × Int32, Ev E (d + 2) zm_X3_run 28 [some (.ref 76), some (.int 0)] [] (HP (setR (setR z.1 77 s.1) 76 (upd (z.1 76) 3 s.2), z.2)) K = K none (HP (setR (setR z.1 77 (itr (ruF z nc np) 18 s).1) 76 (upd (z.1 76) 3 (itr (ruF z nc np) 18 s).2), z.2)) := fun s => by
    have l := itr_eq (fun i (s : (Nat → Int32) × Int32) => Ev E (d + 2) zm_X3_run 28 [some (.ref 76), some (.int (nI i))] [] (HP (setR (setR z.1 77 s.1) 76 (upd (z.1 76) 3 s.2), z.2)) K) (ruF z nc np) s 18 (fun i hi => by
      generalize itr _ i _ = s
      have d3 : nI i / 3 = nI (i / 3) := by rw [e3, nI_div (by omega) (by decide)]
      have q3 : nI i - nI (i / 3) * 3 = nI (i % 3) := by rw [← d3, e3, nI_mod (by omega) (by decide)]
      have d6 : nI i / 6 = nI (i / 6) := by rw [e6, nI_div (by omega) (by decide)]
      have q6 : nI i - nI (i / 6) * 6 = nI (i % 6) := by rw [← d6, e6, nI_mod (by omega) (by decide)]
      have u2 : upd (z.1 76) 3 s.2 2 = z.1 76 2 := rfl
      have o1 := l_offer E d hnc (show i / 3 < 6 by omega) (show i % 3 < 3 by omega) h4 h0 s
      have o2 := l_offer E d hnc (show i % 6 < 6 by omega) (show i / 6 < 3 by omega) h4 h0 s
      rw [e_X3_run_28]
      simp only [↓e_X3_run_5, ↓e_X3_run_13, ↓e_X3_run_17, ↓e_X3_run_20, ↓e_X3_run_26, ↓e_X3_run_33, ↓e_X3_run_34, ↓e_X3_run_37, ↓e_X3_run_41, ↓e_X3_run_44, ↓e_X3_run_48, ↓e_X3_run_51, ↓e_X3_run_54, ↓e_X3_run_57, ↓e_X3_run_62, ↓e_X3_run_66, ↓e_X3_run_69, ↓e_X3_run_75, g3 o3_76, v3 o3_76, Nat.reduceAdd, HP_al i90, setR_s, u2, zk_i, zk_r, zk_n, nI_lt_iff (show i < 2 ^ 31 by omega) (show 18 < 2 ^ 31 by decide), hi, ↓reduceIte, t3, t6, d3, q3, d6, q6, o1, o2, zps_n, not_false_eq_true, true_and, nI_1, ruF]
      by_cases hr : z.1 76 2 = 0 <;> simp only [hr, ↓reduceIte])
    rw [nI_0] at l
    rw [l, e_X3_run_28]
    simp only [↓e_X3_run_5, ↓e_X3_run_13, ↓e_X3_run_17, ↓e_X3_run_20, ↓e_X3_run_26, ↓e_X3_run_33, ↓e_X3_run_34, ↓e_X3_run_37, ↓e_X3_run_41, ↓e_X3_run_44, ↓e_X3_run_48, ↓e_X3_run_51, ↓e_X3_run_54, ↓e_X3_run_57, ↓e_X3_run_62, ↓e_X3_run_66, ↓e_X3_run_69, ↓e_X3_run_75, g3 o3_76, Nat.reduceAdd, HP_al i90, nI_lt_iff (show 18 < 2 ^ 31 by decide) (show 18 < 2 ^ 31 by decide), Nat.lt_irrefl, ↓reduceIte]
  rw [nI_0] at loop1
  simp only [sx] at loop1
  simp only [↓c_X3_run, ↓e_X3_run_0, ↓e_X3_run_5, ↓e_X3_run_13, ↓e_X3_run_17, ↓e_X3_run_20, ↓e_X3_run_26, ↓e_X3_run_33, ↓e_X3_run_34, ↓e_X3_run_37, ↓e_X3_run_41, ↓e_X3_run_44, ↓e_X3_run_48, ↓e_X3_run_51, ↓e_X3_run_54, ↓e_X3_run_57, ↓e_X3_run_62, ↓e_X3_run_66, ↓e_X3_run_69, ↓e_X3_run_75, p3 o3_76, set2_R, zk_i, zk_r, zk_n]
  rw [loop1, e_X3_run_7]
  simp only [lt_lit (n := 6) (x := 6) (by decide) (show 6 < 2 ^ 31 by decide) (by decide), Nat.lt_irrefl, ↓reduceIte]
  simp only [↓e_X3_run_5, ↓e_X3_run_13, ↓e_X3_run_17, ↓e_X3_run_20, ↓e_X3_run_26, ↓e_X3_run_33, ↓e_X3_run_34, ↓e_X3_run_37, ↓e_X3_run_41, ↓e_X3_run_44, ↓e_X3_run_48, ↓e_X3_run_51, ↓e_X3_run_54, ↓e_X3_run_57, ↓e_X3_run_62, ↓e_X3_run_66, ↓e_X3_run_69, ↓e_X3_run_75, zk_i, zk_r, zk_n]
  exact loop2 (itr (fun i g => upd g i (-1)) 6 (z.1 77), 0)
