/-! PLAN: numbers; PlanSearch's leastKnown, compare (at 45: bestRow 46, row 47, learned 48, fading 49, spoken 50, known 51 (52 .. 56), sitters 57) -/
def kS (z : zS) (m s : Nat) (k : Nat → Nat) (p : Nat) : Nat := min 100 (k p + lnN z s m p) - min 100 (k p + lnN z s m p) * fdN z p / 20
def KD (z : zS) (m : Nat) (D : Nat → Nat) : Nat → Nat → Nat
  | 0 => knN z
  | t + 1 => kS z m (D t) (KD z m D t)
theorem KD_congr {z : zS} {m : Nat} {D D' : Nat → Nat} : ∀ t, (∀ i, i < t → D i = D' i) → KD z m D t = KD z m D' t
  | 0, _ => rfl
  | t + 1, h => by
    show kS z m (D t) (KD z m D t) = kS z m (D' t) (KD z m D' t)
    rw [KD_congr t (fun i hi => h i (by omega)), h t (by omega)]
theorem KD_le {z : zS} {np nc ns nl ny ch ea : Nat} (h : RT z.1 1 0 np nc ns nl ny ch ea) {m : Nat} {D : Nat → Nat} {p : Nat} (hp : p < np) : ∀ t, KD z m D t p ≤ 100
  | 0 => (q_kn h hp).2.2
  | t + 1 => Nat.le_trans (Nat.sub_le _ _) (Nat.min_le_left _ _)
def lsK (z : zS) (np : Nat) (k : Nat → Nat) : Nat := itr (fun p b => if 0 < z.1 130 (3 * p + 1) ∧ k p < b then k p else b) np 100
theorem lsK_le (z : zS) (k : Nat → Nat) : ∀ np, lsK z np k ≤ 100
  | 0 => Nat.le_refl _
  | np + 1 => by
    have ih := lsK_le z k np
    unfold lsK at ih ⊢
    rw [itr_s]
    split
    · rename_i q
      omega
    · exact ih
theorem lsK_congr {z : zS} {k k' : Nat → Nat} {np : Nat} (h : ∀ p, p < np → k p = k' p) : lsK z np k = lsK z np k' := by
  unfold lsK
  exact itr_congr np (fun i hi => by rw [h i hi])
def siS (z : zS) (np nc : Nat) (D : Nat → Nat) : Nat → Nat
  | 0 => 0
  | t + 1 => siS z np nc D t + siN z np nc (D t)
theorem siS_congr {z : zS} {np nc : Nat} {D D' : Nat → Nat} : ∀ t, (∀ i, i < t → D i = D' i) → siS z np nc D t = siS z np nc D' t
  | 0, _ => rfl
  | t + 1, h => by
    show siS z np nc D t + siN z np nc (D t) = siS z np nc D' t + siN z np nc (D' t)
    rw [siS_congr t (fun i hi => h i (by omega)), h t (by omega)]
theorem siS_le {z : zS} {np nc : Nat} (hc : nc ≤ 6) {D : Nat → Nat} : ∀ t, siS z np nc D t ≤ 6 * t
  | 0 => Nat.le_refl _
  | t + 1 => by
    have ih := siS_le (z := z) (np := np) hc (D := D) t
    have : siN z np nc (D t) ≤ nc := cnt_le _ nc
    show siS z np nc D t + siN z np nc (D t) ≤ _
    omega
def scP (z : zS) (np nc ns m dd k : Nat) : Int := 100 * (lsK z np (KD z m (dg ns dd k) dd) : Int) - (siS z np nc (dg ns dd k) dd : Int)
def SP (f : Nat → Nat → Int32) (z : zS) (np nc ns m dd : Nat) (o : Option Nat) : Prop := match o with
  | none => f 45 3 = 0
  | some j => f 45 3 = 1 ∧ f 45 0 = nI (lsK z np (KD z m (dg ns dd j) dd)) ∧ f 45 2 = nI (siS z np nc (dg ns dd j) dd) ∧ ∀ i, i < dd → f 46 i = nI (dg ns dd j i)
theorem SP_c {f f' : Nat → Nat → Int32} {z : zS} {np nc ns m dd : Nat} {o : Option Nat} (h45 : f' 45 = f 45) (h46 : f' 46 = f 46) (h : SP f z np nc ns m dd o) : SP f' z np nc ns m dd o := by
  cases o with
  | none =>
    show f' 45 3 = 0
    rw [h45]
    exact h
  | some j =>
    show f' 45 3 = 1 ∧ f' 45 0 = _ ∧ f' 45 2 = _ ∧ ∀ i, i < dd → f' 46 i = _
    rw [h45, h46]
    exact h
theorem i46 : isI 46 4 := rfl
theorem i47 : isI 47 4 := rfl
theorem i48 : isI 48 42 := rfl
theorem i49 : isI 49 6 := rfl
theorem z50 : isZ 50 6 := rfl
theorem i57 : isI 57 7 := rfl
theorem i51 : zlay[51]? = some (.inl (4, 5, [52, 53, 54, 55, 56])) := by decide +kernel
theorem ra51 {i : Nat} (hi : i < 5) (z : zS) (K : Nat → Prop) : zra (HP z) 51 (nI i) K = K (52 + i) := by
  unfold zra
  rw [HP_get i51]
  show (if nI i < 0 ∨ 5 ≤ (nI i).toNatClampNeg ∨ ((4 : Nat) ≠ 3 ∧ (4 : Nat) ≠ 4) then False else (match ([52, 53, 54, 55, 56] : List Nat)[(nI i).toNatClampNeg]? with
    | some r => K r
    | none => False)) = _
  have hf : ¬ (nI i < 0 ∨ 5 ≤ i ∨ ((4 : Nat) ≠ 3 ∧ (4 : Nat) ≠ 4)) := by
    rw [nI_neg (show i < 2 ^ 31 by omega)]
    intro q
    rcases q with q | q | q
    · exact q
    · omega
    · exact q.2 rfl
  rw [nI_cl (by omega), if_neg hf]
  obtain rfl | rfl | rfl | rfl | rfl : i = 0 ∨ i = 1 ∨ i = 2 ∨ i = 3 ∨ i = 4 := by omega
  all_goals rfl
theorem ik {i : Nat} (hi : i < 5) : isI (52 + i) 6 := by
  obtain rfl | rfl | rfl | rfl | rfl : i = 0 ∨ i = 1 ∨ i = 2 ∨ i = 3 ∨ i = 4 := by omega
  all_goals rfl
/-- what the search holds of the state -/
def Dp (f : Nat → Nat → Int32) (z : zS) (np nc ns m dd : Nat) : Prop := f 45 4 = nI dd ∧ f 45 5 = nI ns ∧ f 45 6 = nI np ∧ (∀ s, s < ns → ∀ p, p < np → f 48 (6 * s + p) = nI (lnN z s m p)) ∧ (∀ p, p < np → f 49 p = nI (fdN z p)) ∧ (∀ p, p < np → f 50 p = bI (decide (0 < z.1 130 (3 * p + 1)))) ∧ ∀ s, s < ns → f 57 s = nI (siN z np nc s)
theorem x_leastKnown (E : zE) (d : Nat) {f : Nat → Nat → Int32} {t : (Nat → Nat → Int64) × Nat} {z : zS} {np day : Nat} (hnp : np ≤ 6) (hday : day < 5) {k : Nat → Nat} (h6 : f 45 6 = nI np) (h50 : ∀ p, p < np → f 50 p = bI (decide (0 < z.1 130 (3 * p + 1)))) (hk : ∀ p, p < np → f (52 + day) p = nI (k p) ∧ k p ≤ 100) (K : Option Value → zH → Prop) : Cl E (d + 1) 40 [.ref 45, .int (nI day)] (HP (f, t)) K = K (some (.int (nI (lsK z np k)))) (HP (f, t)) := by
  have n1 : np < 2 ^ 31 := by omega
  have loop := itr_eq (fun i (b : Nat) => Ev E (d + 1) zm_X4_leastKnown 5 [some (.ref 45), some (.int (nI day)), some (.int (nI b)), some (.int (nI i))] [] (HP (f, t)) K) (fun p b => if 0 < z.1 130 (3 * p + 1) ∧ k p < b then k p else b) 100 np (fun i hi => by
    have hb : itr (fun p b => if 0 < z.1 130 (3 * p + 1) ∧ k p < b then k p else b) i 100 ≤ 100 := lsK_le z k i
    generalize itr _ i _ = b at hb
    obtain ⟨hk1, hk2⟩ := hk i hi
    have el : (nI (k i) < nI b) = (k i < b) := nI_lt_iff (by omega) (by omega)
    by_cases q : 0 < z.1 130 (3 * i + 1)
    · rw [e_X4_leastKnown_5]
      simp only [↓e_X4_leastKnown_10, ↓e_X4_leastKnown_13, ↓e_X4_leastKnown_17, ↓e_X4_leastKnown_19, ↓e_X4_leastKnown_22, ↓e_X4_leastKnown_27, ↓e_X4_leastKnown_29, ↓e_X4_leastKnown_31, ↓e_X4_leastKnown_35, ↓e_X4_leastKnown_41, g4 o4_45, Nat.reduceAdd, h6, rb_k z50 (show i < 6 by omega) (by decide), h50 i hi, q, decide_true, bI_t, i01, ra51 hday, ri_k (ik hday) (show i < 6 by omega) (by decide), hk1, el, zk_i, zk_r, zk_n, nI_lt_iff (show i < 2 ^ 31 by omega) n1, hi, true_and, ↓reduceIte, nI_1]
      by_cases q2 : k i < b <;> simp only [q2, ↓reduceIte]
    · rw [e_X4_leastKnown_5]
      simp only [↓e_X4_leastKnown_10, ↓e_X4_leastKnown_13, ↓e_X4_leastKnown_17, ↓e_X4_leastKnown_19, ↓e_X4_leastKnown_22, ↓e_X4_leastKnown_27, ↓e_X4_leastKnown_29, ↓e_X4_leastKnown_31, ↓e_X4_leastKnown_35, ↓e_X4_leastKnown_41, g4 o4_45, Nat.reduceAdd, h6, rb_k z50 (show i < 6 by omega) (by decide), h50 i hi, q, decide_false, bI_f, zk_i, zk_r, zk_n, nI_lt_iff (show i < 2 ^ 31 by omega) n1, hi, false_and, ↓reduceIte, nI_1])
  rw [nI_0, show nI 100 = 100 from rfl] at loop
  simp only [↓c_X4_leastKnown, ↓e_X4_leastKnown_0, ↓e_X4_leastKnown_10, ↓e_X4_leastKnown_13, ↓e_X4_leastKnown_17, ↓e_X4_leastKnown_19, ↓e_X4_leastKnown_22, ↓e_X4_leastKnown_27, ↓e_X4_leastKnown_29, ↓e_X4_leastKnown_31, ↓e_X4_leastKnown_35, ↓e_X4_leastKnown_41, zk_i, zk_r, zk_n]
  rw [loop, e_X4_leastKnown_5]
  simp only [↓e_X4_leastKnown_10, ↓e_X4_leastKnown_13, ↓e_X4_leastKnown_17, ↓e_X4_leastKnown_19, ↓e_X4_leastKnown_22, ↓e_X4_leastKnown_27, ↓e_X4_leastKnown_29, ↓e_X4_leastKnown_31, ↓e_X4_leastKnown_35, ↓e_X4_leastKnown_41, g4 o4_45, Nat.reduceAdd, h6, nI_lt_iff n1 n1, Nat.lt_irrefl, ↓reduceIte]
  rfl
def kpP (f : Nat → Nat → Int32) (l s : Nat) : Nat → Nat → Int32 := setR (set2 (set2 (set2 f 45 3 1) 45 0 (nI l)) 45 2 (nI s)) 46 (itr (fun i g => upd g i (f 47 i)) 4 (f 46))
theorem x_compare (E : zE) (d : Nat) {f : Nat → Nat → Int32} {t : (Nat → Nat → Int64) × Nat} {l s l0 s0 : Nat} (hl : l < 2 ^ 31) (hs : s < 2 ^ 31) (hf : f 45 3 = 0 ∨ (f 45 3 = 1 ∧ f 45 0 = nI l0 ∧ f 45 2 = nI s0 ∧ l0 < 2 ^ 31 ∧ s0 < 2 ^ 31)) (Q : Option Value → zH → Prop) (q1 : (f 45 3 = 1 → l0 < l ∨ (l = l0 ∧ s < s0)) → Q none (HP (kpP f l s, t))) (q2 : f 45 3 = 1 → ¬ (l0 < l ∨ (l = l0 ∧ s < s0)) → Q none (HP (f, t))) : Cl E d 41 [.ref 45, .int (nI l), .int (nI s)] (HP (f, t)) Q := by
  have loop : ∀ (g : Nat → Nat → Int32) (x : Int32), g 47 = f 47 → g 46 = f 46 → Ev E d zm_X4_compare 60 [some (.ref 45), some (.int (nI l)), some (.int (nI s)), some (.int x), some (.int 0)] [] (HP (g, t)) Q = Q none (HP (setR g 46 (itr (fun i g => upd g i (f 47 i)) 4 (f 46)), t)) := fun g x h47 h46 => by
    have lp := itr_eq (fun i r => Ev E d zm_X4_compare 60 [some (.ref 45), some (.int (nI l)), some (.int (nI s)), some (.int x), some (.int (nI i))] [] (HP (setR g 46 r, t)) Q) (fun i g => upd g i (f 47 i)) (f 46) 4 (fun i hi => by
      generalize itr _ i _ = r
      have e47 : setR g 46 r 47 = f 47 := by rw [setR_n (by decide), h47]
      rw [e_X4_compare_60]
      simp only [↓e_X4_compare_5, ↓e_X4_compare_8, ↓e_X4_compare_13, ↓e_X4_compare_16, ↓e_X4_compare_21, ↓e_X4_compare_24, ↓e_X4_compare_28, ↓e_X4_compare_29, ↓e_X4_compare_34, ↓e_X4_compare_37, ↓e_X4_compare_41, ↓e_X4_compare_42, ↓e_X4_compare_47, ↓e_X4_compare_52, ↓e_X4_compare_57, ↓e_X4_compare_66, ↓e_X4_compare_70, ↓e_X4_compare_76, ↓e_X4_compare_79, ↓e_X4_compare_80, ↓e_X4_compare_86, g4 o4_45, Nat.reduceAdd, ri_k i47 hi (by decide), wi_k i46 hi (by decide), e47, set2_R, setR_s, setR_2, zk_i, zk_r, zk_n, lt_lit (n := 4) (x := 4) (by decide) (show i < 2 ^ 31 by omega) (by decide), hi, ↓reduceIte, nI_1])
    rw [nI_0] at lp
    have es : HP (g, t) = HP (setR g 46 (f 46), t) := by rw [← h46, setR_id]
    rw [es, lp, e_X4_compare_60]
    simp only [↓e_X4_compare_5, ↓e_X4_compare_8, ↓e_X4_compare_13, ↓e_X4_compare_16, ↓e_X4_compare_21, ↓e_X4_compare_24, ↓e_X4_compare_28, ↓e_X4_compare_29, ↓e_X4_compare_34, ↓e_X4_compare_37, ↓e_X4_compare_41, ↓e_X4_compare_42, ↓e_X4_compare_47, ↓e_X4_compare_52, ↓e_X4_compare_57, ↓e_X4_compare_66, ↓e_X4_compare_70, ↓e_X4_compare_76, ↓e_X4_compare_79, ↓e_X4_compare_80, ↓e_X4_compare_86, lt_lit (n := 4) (x := 4) (by decide) (show 4 < 2 ^ 31 by decide) (by decide), Nat.lt_irrefl, ↓reduceIte]
  have a47 : set2 (set2 (set2 f 45 3 1) 45 0 (nI l)) 45 2 (nI s) 47 = f 47 := by rw [set2_a (by decide), set2_a (by decide), set2_a (by decide)]
  have a46 : set2 (set2 (set2 f 45 3 1) 45 0 (nI l)) 45 2 (nI s) 46 = f 46 := by rw [set2_a (by decide), set2_a (by decide), set2_a (by decide)]
  have lp := fun x => loop (set2 (set2 (set2 f 45 3 1) 45 0 (nI l)) 45 2 (nI s)) x a47 a46
  rcases hf with f0 | ⟨f1, f2, f3, h1, h2⟩
  · have q := q1 (fun e => by rw [f0] at e; exact absurd e (by decide))
    unfold kpP at q
    by_cases c1 : f 45 0 < nI l
    · simp only [↓c_X4_compare, ↓e_X4_compare_0, ↓e_X4_compare_5, ↓e_X4_compare_8, ↓e_X4_compare_13, ↓e_X4_compare_16, ↓e_X4_compare_21, ↓e_X4_compare_24, ↓e_X4_compare_28, ↓e_X4_compare_29, ↓e_X4_compare_34, ↓e_X4_compare_37, ↓e_X4_compare_41, ↓e_X4_compare_42, ↓e_X4_compare_47, ↓e_X4_compare_52, ↓e_X4_compare_57, ↓e_X4_compare_66, ↓e_X4_compare_70, ↓e_X4_compare_76, ↓e_X4_compare_79, ↓e_X4_compare_80, ↓e_X4_compare_86, g4 o4_45, p4 o4_45, Nat.reduceAdd, c1, f0, lp, zk_i, zk_r, zk_n, ↓reduceIte]
      exact q
    · by_cases c2 : nI l = f 45 0
      · have c2' : (nI l = f 45 0) = True := eq_true c2
        by_cases c3 : nI s < f 45 2
        · simp only [↓c_X4_compare, ↓e_X4_compare_0, ↓e_X4_compare_5, ↓e_X4_compare_8, ↓e_X4_compare_13, ↓e_X4_compare_16, ↓e_X4_compare_21, ↓e_X4_compare_24, ↓e_X4_compare_28, ↓e_X4_compare_29, ↓e_X4_compare_34, ↓e_X4_compare_37, ↓e_X4_compare_41, ↓e_X4_compare_42, ↓e_X4_compare_47, ↓e_X4_compare_52, ↓e_X4_compare_57, ↓e_X4_compare_66, ↓e_X4_compare_70, ↓e_X4_compare_76, ↓e_X4_compare_79, ↓e_X4_compare_80, ↓e_X4_compare_86, g4 o4_45, p4 o4_45, Nat.reduceAdd, c1, c2', c3, f0, lp, zk_i, zk_r, zk_n, ↓reduceIte]
          exact q
        · simp only [↓c_X4_compare, ↓e_X4_compare_0, ↓e_X4_compare_5, ↓e_X4_compare_8, ↓e_X4_compare_13, ↓e_X4_compare_16, ↓e_X4_compare_21, ↓e_X4_compare_24, ↓e_X4_compare_28, ↓e_X4_compare_29, ↓e_X4_compare_34, ↓e_X4_compare_37, ↓e_X4_compare_41, ↓e_X4_compare_42, ↓e_X4_compare_47, ↓e_X4_compare_52, ↓e_X4_compare_57, ↓e_X4_compare_66, ↓e_X4_compare_70, ↓e_X4_compare_76, ↓e_X4_compare_79, ↓e_X4_compare_80, ↓e_X4_compare_86, g4 o4_45, p4 o4_45, Nat.reduceAdd, c1, c2', c3, f0, lp, zk_i, zk_r, zk_n, ↓reduceIte]
          exact q
      · simp only [↓c_X4_compare, ↓e_X4_compare_0, ↓e_X4_compare_5, ↓e_X4_compare_8, ↓e_X4_compare_13, ↓e_X4_compare_16, ↓e_X4_compare_21, ↓e_X4_compare_24, ↓e_X4_compare_28, ↓e_X4_compare_29, ↓e_X4_compare_34, ↓e_X4_compare_37, ↓e_X4_compare_41, ↓e_X4_compare_42, ↓e_X4_compare_47, ↓e_X4_compare_52, ↓e_X4_compare_57, ↓e_X4_compare_66, ↓e_X4_compare_70, ↓e_X4_compare_76, ↓e_X4_compare_79, ↓e_X4_compare_80, ↓e_X4_compare_86, g4 o4_45, p4 o4_45, Nat.reduceAdd, c1, c2, f0, lp, zk_i, zk_r, zk_n, ↓reduceIte]
        exact q
  · have e1 : (nI l0 < nI l) = (l0 < l) := nI_lt_iff h1 hl
    have e2 : (nI l = nI l0) = (l = l0) := propext (nI_eq hl h1)
    have e3 : (nI s < nI s0) = (s < s0) := nI_lt_iff hs h2
    by_cases c1 : l0 < l
    · have q := q1 (fun _ => Or.inl c1)
      unfold kpP at q
      simp only [↓c_X4_compare, ↓e_X4_compare_0, ↓e_X4_compare_5, ↓e_X4_compare_8, ↓e_X4_compare_13, ↓e_X4_compare_16, ↓e_X4_compare_21, ↓e_X4_compare_24, ↓e_X4_compare_28, ↓e_X4_compare_29, ↓e_X4_compare_34, ↓e_X4_compare_37, ↓e_X4_compare_41, ↓e_X4_compare_42, ↓e_X4_compare_47, ↓e_X4_compare_52, ↓e_X4_compare_57, ↓e_X4_compare_66, ↓e_X4_compare_70, ↓e_X4_compare_76, ↓e_X4_compare_79, ↓e_X4_compare_80, ↓e_X4_compare_86, g4 o4_45, p4 o4_45, Nat.reduceAdd, f2, e1, c1, f1, i01, lp, zk_i, zk_r, zk_n, ↓reduceIte]
      exact q
    · by_cases c2 : l = l0
      · have c2' : (l = l0) = True := eq_true c2
        by_cases c3 : s < s0
        · have q := q1 (fun _ => Or.inr ⟨c2, c3⟩)
          unfold kpP at q
          simp only [↓c_X4_compare, ↓e_X4_compare_0, ↓e_X4_compare_5, ↓e_X4_compare_8, ↓e_X4_compare_13, ↓e_X4_compare_16, ↓e_X4_compare_21, ↓e_X4_compare_24, ↓e_X4_compare_28, ↓e_X4_compare_29, ↓e_X4_compare_34, ↓e_X4_compare_37, ↓e_X4_compare_41, ↓e_X4_compare_42, ↓e_X4_compare_47, ↓e_X4_compare_52, ↓e_X4_compare_57, ↓e_X4_compare_66, ↓e_X4_compare_70, ↓e_X4_compare_76, ↓e_X4_compare_79, ↓e_X4_compare_80, ↓e_X4_compare_86, g4 o4_45, p4 o4_45, Nat.reduceAdd, f2, f3, e1, e2, e3, c1, c2', c3, f1, i01, lp, zk_i, zk_r, zk_n, ↓reduceIte]
          exact q
        · have q := q2 f1 (by omega)
          simp only [↓c_X4_compare, ↓e_X4_compare_0, ↓e_X4_compare_5, ↓e_X4_compare_8, ↓e_X4_compare_13, ↓e_X4_compare_16, ↓e_X4_compare_21, ↓e_X4_compare_24, ↓e_X4_compare_28, ↓e_X4_compare_29, ↓e_X4_compare_34, ↓e_X4_compare_37, ↓e_X4_compare_41, ↓e_X4_compare_42, ↓e_X4_compare_47, ↓e_X4_compare_52, ↓e_X4_compare_57, ↓e_X4_compare_66, ↓e_X4_compare_70, ↓e_X4_compare_76, ↓e_X4_compare_79, ↓e_X4_compare_80, ↓e_X4_compare_86, g4 o4_45, p4 o4_45, Nat.reduceAdd, f2, f3, e1, e2, e3, c1, c2', c3, f1, i01, zk_i, zk_r, zk_n, ↓reduceIte]
          exact q
      · have q := q2 f1 (by omega)
        simp only [↓c_X4_compare, ↓e_X4_compare_0, ↓e_X4_compare_5, ↓e_X4_compare_8, ↓e_X4_compare_13, ↓e_X4_compare_16, ↓e_X4_compare_21, ↓e_X4_compare_24, ↓e_X4_compare_28, ↓e_X4_compare_29, ↓e_X4_compare_34, ↓e_X4_compare_37, ↓e_X4_compare_41, ↓e_X4_compare_42, ↓e_X4_compare_47, ↓e_X4_compare_52, ↓e_X4_compare_57, ↓e_X4_compare_66, ↓e_X4_compare_70, ↓e_X4_compare_76, ↓e_X4_compare_79, ↓e_X4_compare_80, ↓e_X4_compare_86, g4 o4_45, p4 o4_45, Nat.reduceAdd, f2, f3, e1, e2, c1, c2, f1, i01, zk_i, zk_r, zk_n, ↓reduceIte]
        exact q
