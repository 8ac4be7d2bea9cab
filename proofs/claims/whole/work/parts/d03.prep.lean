/-! ODDS: made ready, in the class -/
theorem scB_o {z z' : zS} {o o' ns : Nat} (h0 : z.1 o 0 = z'.1 o' 0) (h1 : z.1 o 11 = z'.1 o' 11) (hns : ns ≤ 7) (hr : ∀ i, i < ns → z.1 (o + 11) i = z'.1 (o' + 11) i) (p : Int32) : scB z o p ns 0 = scB z' o' p ns 0 := by
  unfold scB
  refine itr_congr ns (fun i hi => ?_)
  generalize itr _ i _ = b
  have : plB z o (nI i) p = plB z' o' (nI i) p := by
    unfold plB
    rw [h0, h1, nI_cl (by omega), hr i hi]
  rw [this]
theorem clrow_o {z z' : zS} {o o' ns : Nat} (h0 : z.1 o 0 = z'.1 o' 0) (h1 : z.1 o 11 = z'.1 o' 11) (hns : ns ≤ 7) (hr : ∀ i, i < ns → z.1 (o + 11) i = z'.1 (o' + 11) i) (np ch a : Nat) : clrow z o np ns ch a = clrow z' o' np ns ch a := by
  unfold clrow clB
  refine itr_congr np (fun b _ => ?_)
  rw [scB_o h0 h1 hns hr, scB_o h0 h1 hns hr]
section PR
variable {z : zS} {np nc ns nl ny ch ea : Nat}
def caR (z : zS) (p : Nat) : Int32 := z.1 130 (18 + p)
def bhR (z : zS) (p : Nat) : Int32 := z.1 130 (24 + p)
def ilR (z : zS) (c : Nat) : Nat := (z.1 130 (36 + 5 * c + 4)).toNatClampNeg
theorem q_il (h : RT z.1 1 0 np nc ns nl ny ch ea) {c : Nat} (hc : c < nc) : ilR z c ≤ 19 ∧ z.1 130 (36 + 5 * c + 4) = nI (ilR z c) := by
  obtain ⟨n, h1, h2, h3⟩ := (rt_C h hc).2.2.2.2.2.2.2.2.2.2.2.2.2.1
  unfold ilR
  rw [h3, nI_cl (by omega)]
  exact ⟨h2, rfl⟩
set_option maxRecDepth 100000 in
theorem x_ready (E : zE) (d : Nat) (h : RT z.1 1 0 np nc ns nl ny ch ea) : Hr E (d + 5) 12 [.ref 58, .ref 1] z (fun v z' => v = none ∧ (∀ a, a < 58 ∨ 75 < a → z'.1 a = z.1 a) ∧ (∀ a, a ≠ 75 → z'.2.1 a = z.2.1 a) ∧ z'.2.2 = z.2.2 ∧ CD z'.1 nc np (caR z) (bhR z) (fun a => lcrow z np ns ch a) (fun c => nI (ilR z c)) ∧ (∀ x, x < 64 → z'.2.1 75 x = lN (wyX nc (ilR z) x)) ∧ (∀ p, p < np → z'.1 61 p = z.1 130 (3 * p + 1)) ∧ ∀ c, c < nc → z'.1 63 c = z.1 130 (36 + 5 * c + 0)) := by
  obtain ⟨hc, hm, hn⟩ := rt_F h
  obtain ⟨f0, t, u⟩ := z
  obtain ⟨c1, c2⟩ := cpS_at (o := 59) (q := 2) (by omega) f0
  have cp := s_copyOf isS_59 isS_2 (by decide) E (d + 4) f0 (t, u)
  obtain ⟨f1, hf1⟩ : ∃ g : Nat → Nat → Int32, g = cpS 59 2 f0 := ⟨_, rfl⟩
  rw [← hf1] at cp c1 c2
  have w0 : f1 59 0 = nI np := (c2 0 0 (by unfold okS; omega)).trans hc.1
  have w4 : f1 59 4 = nI nc := (c2 0 4 (by unfold okS; omega)).trans hc.2.1
  have w11 : f1 59 11 = nI ns := (c2 0 11 (by unfold okS; omega)).trans hc.2.2.1
  have fc := s_fillClashes isS_59 i73 (by decide) (by decide) (z := (f1, t, u)) (np := np) (nc := nc) (ns := ns) ⟨w0, w4, w11, hn.1, hn.2.1, hn.2.2.1⟩ E d (ch := ch) hn.2.2.2.1
  have h15 : f1 1 5 = nI ch := by rw [c1 1 (by omega)]; exact hc.2.2.2.1
  have ecl : ∀ a, a < np → clrow (f1, t, u) 59 np ns ch a = lcrow (f0, t, u) np ns ch a := fun a ha => by
    rw [← q_clr h ha]
    exact clrow_o (z := (f1, t, u)) (z' := (f0, t, u)) (c2 0 0 (by unfold okS; omega)) (c2 0 11 (by unfold okS; omega)) hn.2.2.1 (fun i hi => c2 11 i (by unfold okS; omega)) np ch a
  obtain ⟨f2, hf2⟩ : ∃ g : Nat → Nat → Int32, g = setR f1 73 (itr (fun a g => upd g a (clrow (f1, t, u) 59 np ns ch a)) np (f1 73)) := ⟨_, rfl⟩
  dsimp only at fc
  rw [← hf2] at fc
  have r2 : ∀ a, a ≠ 73 → f2 a = f1 a := fun a ha => by rw [hf2, setR_n ha]
  have e73 : ∀ p, p < np → f2 73 p = lcrow (f0, t, u) np ns ch p := fun p hp => by
    rw [hf2, setR_s, itr_updv (fun a => clrow (f1, t, u) 59 np ns ch a), if_pos hp]
    exact ecl p hp
  obtain ⟨f3, hf3⟩ : ∃ g : Nat → Nat → Int32, g = itr (cpF [(71, 14), (72, 15)]) 6 f2 := ⟨_, rfl⟩
  have r3 : ∀ a, a ≠ 71 → a ≠ 72 → f3 a = f2 a := fun a h1 h2 => by rw [hf3, cp_fr (by simp; omega)]
  have e71 : ∀ p, p < np → f3 71 p = f0 130 (18 + p) := fun p hp => by
    rw [hf3, cp_at (a := 71) (b := 14) (by decide) (by decide) f2 (by decide) (by omega), r2 14 (by decide), c1 14 (by omega)]
    exact (rt_P h hp).2.2.2.1
  have e72 : ∀ p, p < np → f3 72 p = f0 130 (24 + p) := fun p hp => by
    rw [hf3, cp_at (a := 72) (b := 15) (by decide) (by decide) f2 (by decide) (by omega), r2 15 (by decide), c1 15 (by omega)]
    exact (rt_P h hp).2.2.2.2.1
  have hD : CD f3 nc np (caR (f0, t, u)) (bhR (f0, t, u)) (fun a => lcrow (f0, t, u) np ns ch a) (fun c => nI (ilR (f0, t, u) c)) := by
    refine ⟨?_, ?_, e71, e72, fun p hp => ?_, fun c hc => ?_⟩
    · rw [r3 59 (by decide) (by decide), r2 59 (by decide)]
      exact w4
    · rw [r3 59 (by decide) (by decide), r2 59 (by decide)]
      exact w0
    · rw [r3 73 (by decide) (by decide)]
      exact e73 p hp
    · have e := (q_il h hc).2
      dsimp only at e ⊢
      rw [r3 67 (by decide) (by decide), r2 67 (by decide), ← e]
      exact (c2 8 c (by unfold okS; omega)).trans (rt_C h hc).2.2.2.2.1
  have fr : ∀ a, a < 58 ∨ 75 < a → f3 a = f0 a := fun a ha => by rw [r3 a (by omega) (by omega), r2 a (by omega), c1 a (by omega)]
  have e61 : ∀ p, p < np → f3 61 p = f0 130 (3 * p + 1) := fun p hp => by
    rw [r3 61 (by decide) (by decide), r2 61 (by decide)]
    exact (c2 2 p (by unfold okS; omega)).trans (rt_P h hp).2.1
  have e63 : ∀ c, c < nc → f3 63 c = f0 130 (36 + 5 * c + 0) := fun c hc => by
    rw [r3 63 (by decide) (by decide), r2 63 (by decide)]
    exact (c2 4 c (by unfold okS; omega)).trans (rt_C h hc).1
  unfold Hr
  generalize hQ : (fun (v : Option Value) (h : zH) => ∃ z' : zS, h = HP z' ∧ (v = none ∧ (∀ a, a < 58 ∨ 75 < a → z'.1 a = (f0, t, u).1 a) ∧ (∀ a, a ≠ 75 → z'.2.1 a = (f0, t, u).2.1 a) ∧ z'.2.2 = (f0, t, u).2.2 ∧ CD z'.1 nc np (caR (f0, t, u)) (bhR (f0, t, u)) (fun a => lcrow (f0, t, u) np ns ch a) (fun c => nI (ilR (f0, t, u) c)) ∧ (∀ x, x < 64 → z'.2.1 75 x = lN (wyX nc (ilR (f0, t, u)) x)) ∧ (∀ p, p < np → z'.1 61 p = (f0, t, u).1 130 (3 * p + 1)) ∧ ∀ c, c < nc → z'.1 63 c = (f0, t, u).1 130 (36 + 5 * c + 0))) = Q
  have loop2 : ∀ k x (t' : Nat → Nat → Int64), x + k = 64 → (∀ a, a ≠ 75 → t' a = t a) → (∀ y, y < x → t' 75 y = lN (wyX nc (ilR (f0, t, u)) y)) → Ev E (d + 5) zm_X1_prepare 66 [some (.ref 58), some (.ref 1), some (.int (nI x))] [] (HP (f3, t', u)) Q := by
    intro k
    induction k with
    | zero =>
      intro x t' hxk ht hy
      have e : x = 64 := by omega
      subst e
      have q : Q none (HP (f3, t', u)) := by
        rw [← hQ]
        exact ⟨(f3, t', u), rfl, rfl, fr, ht, rfl, hD, hy, e61, e63⟩
      rw [e_X1_prepare_66]
      simp only [↓e_X1_prepare_4, ↓e_X1_prepare_8, ↓e_X1_prepare_11, ↓e_X1_prepare_15, ↓e_X1_prepare_19, ↓e_X1_prepare_23, ↓e_X1_prepare_26, ↓e_X1_prepare_34, ↓e_X1_prepare_38, ↓e_X1_prepare_43, ↓e_X1_prepare_45, ↓e_X1_prepare_46, ↓e_X1_prepare_50, ↓e_X1_prepare_55, ↓e_X1_prepare_57, ↓e_X1_prepare_58, ↓e_X1_prepare_64, ↓e_X1_prepare_71, ↓e_X1_prepare_72, ↓e_X1_prepare_75, ↓e_X1_prepare_79, ↓e_X1_prepare_85, ↓e_X1_prepare_86, ↓e_X1_prepare_92, g1 o1_58, Nat.reduceAdd, HP_alL L75, nI_lt_iff (show 64 < 2 ^ 31 by decide) (show 64 < 2 ^ 31 by decide), Nat.lt_irrefl, zk_i, zk_r, zk_l, zk_n, ↓reduceIte]
      exact q
    | succ k ihk =>
      intro x t' hxk ht hy
      have hx : x < 64 := by omega
      have l := x_waysOf E (d + 2) hn.2.1 (fun c hc => (q_il h hc).1) (z := (f3, t', u)) hD hx
      have w75 := wl_k L75 hx (by decide) (f3, t', u) (lN (wyX nc (ilR (f0, t, u)) x))
      obtain ⟨t2, ht2⟩ : ∃ g : Nat → Nat → Int64, g = set2L t' 75 x (lN (wyX nc (ilR (f0, t, u)) x)) := ⟨_, rfl⟩
      dsimp only at w75
      rw [← ht2] at w75
      have nx := ihk (x + 1) t2 (by omega) (fun a ha => by rw [ht2, set2L_a ha]; exact ht a ha) (fun y hy' => by
        by_cases e : y = x
        · subst e
          rw [ht2, set2L_s]
        · rw [ht2, set2L_n (Or.inr e)]
          exact hy y (by omega))
      rw [e_X1_prepare_66]
      simp only [↓e_X1_prepare_4, ↓e_X1_prepare_8, ↓e_X1_prepare_11, ↓e_X1_prepare_15, ↓e_X1_prepare_19, ↓e_X1_prepare_23, ↓e_X1_prepare_26, ↓e_X1_prepare_34, ↓e_X1_prepare_38, ↓e_X1_prepare_43, ↓e_X1_prepare_45, ↓e_X1_prepare_46, ↓e_X1_prepare_50, ↓e_X1_prepare_55, ↓e_X1_prepare_57, ↓e_X1_prepare_58, ↓e_X1_prepare_64, ↓e_X1_prepare_71, ↓e_X1_prepare_72, ↓e_X1_prepare_75, ↓e_X1_prepare_79, ↓e_X1_prepare_85, ↓e_X1_prepare_86, ↓e_X1_prepare_92, g1 o1_58, v1 o1_58, Nat.reduceAdd, HP_alL L75, nI_lt_iff (show x < 2 ^ 31 by omega) (show 64 < 2 ^ 31 by decide), hx, l, w75, zps_s, nI_1, zk_i, zk_r, zk_l, zk_n, ↓reduceIte]
      exact nx
  have l2 := loop2 64 0 t (by omega) (fun _ _ => rfl) (fun y hy => by omega)
  rw [nI_0] at l2
  have loop1 := itr_eq (fun i f => Ev E (d + 5) zm_X1_prepare 28 [some (.ref 58), some (.ref 1), some (.int (nI i))] [] (HP (f, t, u)) Q) (cpF [(71, 14), (72, 15)]) f2 6 (fun i hi => by
    generalize itr _ i _ = f
    rw [e_X1_prepare_28]
    simp only [↓e_X1_prepare_4, ↓e_X1_prepare_8, ↓e_X1_prepare_11, ↓e_X1_prepare_15, ↓e_X1_prepare_19, ↓e_X1_prepare_23, ↓e_X1_prepare_26, ↓e_X1_prepare_34, ↓e_X1_prepare_38, ↓e_X1_prepare_43, ↓e_X1_prepare_45, ↓e_X1_prepare_46, ↓e_X1_prepare_50, ↓e_X1_prepare_55, ↓e_X1_prepare_57, ↓e_X1_prepare_58, ↓e_X1_prepare_64, ↓e_X1_prepare_71, ↓e_X1_prepare_72, ↓e_X1_prepare_75, ↓e_X1_prepare_79, ↓e_X1_prepare_85, ↓e_X1_prepare_86, ↓e_X1_prepare_92, g1 o1_58, g7 o7_1, Nat.reduceAdd, ri_k (show isI 14 6 from rfl) hi (by decide), ri_k (show isI 15 6 from rfl) hi (by decide), wi_k i71 hi (by decide), wi_k i72 hi (by decide), show (6 : Int32) = nI 6 from by decide, nI_lt_iff (show i < 2 ^ 31 by omega) (show 6 < 2 ^ 31 by decide), hi, nI_1, zk_i, zk_r, zk_l, zk_n, ↓reduceIte]
    rfl)
  rw [nI_0, ← hf3] at loop1
  have fin : Ev E (d + 5) zm_X1_prepare 28 [some (.ref 58), some (.ref 1), some (.int (nI 6))] [] (HP (f3, t, u)) Q = Ev E (d + 5) zm_X1_prepare 66 [some (.ref 58), some (.ref 1), some (.int 0)] [] (HP (f3, t, u)) Q := by
    rw [e_X1_prepare_28]
    simp only [↓e_X1_prepare_4, ↓e_X1_prepare_8, ↓e_X1_prepare_11, ↓e_X1_prepare_15, ↓e_X1_prepare_19, ↓e_X1_prepare_23, ↓e_X1_prepare_26, ↓e_X1_prepare_34, ↓e_X1_prepare_38, ↓e_X1_prepare_43, ↓e_X1_prepare_45, ↓e_X1_prepare_46, ↓e_X1_prepare_50, ↓e_X1_prepare_55, ↓e_X1_prepare_57, ↓e_X1_prepare_58, ↓e_X1_prepare_64, ↓e_X1_prepare_71, ↓e_X1_prepare_72, ↓e_X1_prepare_75, ↓e_X1_prepare_79, ↓e_X1_prepare_85, ↓e_X1_prepare_86, ↓e_X1_prepare_92, show (6 : Int32) = nI 6 from by decide, nI_lt_iff (show 6 < 2 ^ 31 by decide) (show 6 < 2 ^ 31 by decide), Nat.lt_irrefl, zk_i, zk_r, zk_l, zk_n, ↓reduceIte]
  rw [fin] at loop1
  simp only [↓c_X1_prepare, ↓e_X1_prepare_0, ↓e_X1_prepare_4, ↓e_X1_prepare_8, ↓e_X1_prepare_11, ↓e_X1_prepare_15, ↓e_X1_prepare_19, ↓e_X1_prepare_23, ↓e_X1_prepare_26, ↓e_X1_prepare_34, ↓e_X1_prepare_38, ↓e_X1_prepare_43, ↓e_X1_prepare_45, ↓e_X1_prepare_46, ↓e_X1_prepare_50, ↓e_X1_prepare_55, ↓e_X1_prepare_57, ↓e_X1_prepare_58, ↓e_X1_prepare_64, ↓e_X1_prepare_71, ↓e_X1_prepare_72, ↓e_X1_prepare_75, ↓e_X1_prepare_79, ↓e_X1_prepare_85, ↓e_X1_prepare_86, ↓e_X1_prepare_92, g1 o1_58, g7 o7_1, v6 isS_59.1, Nat.reduceAdd, cp, h15, fc, zps_n, zk_i, zk_r, zk_l, zk_n]
  rw [loop1]
  exact l2
end PR
