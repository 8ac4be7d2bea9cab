/-! what is learned and forgotten, on both sides -/
def csN (z : zS) (p : Nat) : Nat := (z.1 130 (18 + p)).toNatClampNeg
def lnN (z : zS) (s m p : Nat) : Nat := if z.1 130 (18 + p) = -1 ∨ bt (z.1 130 (90 + 2 * s + 1)) p = false then 0 else 10 * (z.1 130 (36 + 5 * csN z p + 0)).toNatClampNeg * m / ((z.1 130 (3 * p + 1)).toNatClampNeg + 1)
def fdN (z : zS) (p : Nat) : Nat := if z.1 130 (18 + p) = -1 then 0 else (z.1 130 (36 + 5 * csN z p + 1)).toNatClampNeg
theorem inB_m1 (n : Int32) : inB (-1) n = false := by
  unfold inB
  rw [decide_eq_true (by decide : (-1 : Int32) < 0)]
  rfl
theorem mx0 {n : Nat} (hn : n < 2 ^ 31) : (if (0 : Int32) < nI n then nI n else 0) = nI n := by
  by_cases h : n = 0
  · subst h
    rfl
  · rw [if_pos (show (0 : Int32) < nI n from nI_lt (a := 0) (by omega) hn)]
theorem ln_ar {l m n : Nat} (hl : l ≤ 9) (hm : m ≤ 40) (hn : n ≤ 60) : (10 : Int32) * nI l * nI m / (nI n + 1) = nI (10 * l * m / (n + 1)) ∧ 10 * l * m / (n + 1) ≤ 3600 := by
  have h1 : 10 * l * m ≤ 3600 := by
    have : 10 * l * m ≤ 10 * 9 * 40 := Nat.mul_le_mul (Nat.mul_le_mul_left 10 hl) hm
    omega
  refine ⟨?_, Nat.le_trans (Nat.div_le_self _ _) h1⟩
  have e : (10 : Int32) = nI 10 := rfl
  rw [e, nI_mul, nI_mul, nI_1, nI_div (by omega) (by omega)]
section RTS
variable {z : zS} {np nc ns nl ny ch ea : Nat}
theorem q_ln (h : RT z.1 1 0 np nc ns nl ny ch ea) {p s m : Nat} (hp : p < np) (hs : s < ns) (hm : m ≤ 40) : lnZ z 1 (nI p) (nI s) (nI m) = nI (lnN z s m p) ∧ lnN z s m p ≤ 3600 := by
  obtain ⟨hc, hm', hn⟩ := rt_F h
  obtain ⟨p1, p2, p3, p4, p5, p6, p7, ⟨l, -, l2, el⟩, p9, pc, -⟩ := rt_P h hp
  unfold lnZ lnN
  rw [show plB z (1 + 1) (nI s) (nI p) = bt (z.1 130 (90 + 2 * s + 1)) p from q_pl h hs hp, nI_cl (by omega), show z.1 (1 + 13) p = z.1 130 (18 + p) from p4, show z.1 (1 + 1) 4 = nI nc from hc.2.1]
  rcases pc with q | ⟨c, hcc, q⟩
  · rw [q, inB_m1, Bool.and_false]
    simp
    rfl
  · have e1 : ¬ nI c = -1 := by rw [nIn1 (by omega)]; exact id
    rw [show csN z p = c by unfold csN; rw [q, nI_cl (by omega)], q, inB_nI (by omega) (by omega), decide_eq_true hcc, Bool.and_true, nI_cl (by omega), el, nI_cl (by omega)]
    obtain ⟨c1, -, -, -, -, -, -, -, -, ⟨k, -, k2, ek⟩, -⟩ := rt_C h hcc
    rw [show z.1 (1 + 1 + 4) c = z.1 130 (36 + 5 * c + 0) from c1, show z.1 (1 + 1 + 2) p = z.1 130 (3 * p + 1) from p2, ek, el, nI_cl (by omega), mx0 (by omega)]
    obtain ⟨a1, a2⟩ := ln_ar k2 hm l2
    cases hb : bt (z.1 130 (90 + 2 * s + 1)) p
    · simp [e1]
      rfl
    · simp only [e1, reduceCtorEq, or_self, ↓reduceIte]
      exact ⟨a1, a2⟩
theorem q_fd (h : RT z.1 1 0 np nc ns nl ny ch ea) {p : Nat} (hp : p < np) : fdZ z 1 (nI p) = nI (fdN z p) ∧ fdN z p ≤ 9 := by
  obtain ⟨hc, hm', hn⟩ := rt_F h
  obtain ⟨p1, p2, p3, p4, p5, p6, p7, p8, p9, pc, -⟩ := rt_P h hp
  unfold fdZ fdN
  rw [nI_cl (by omega), show z.1 (1 + 13) p = z.1 130 (18 + p) from p4, show z.1 (1 + 1) 4 = nI nc from hc.2.1, show z.1 (1 + 1) 0 = nI np from hc.1, inB_nI (by omega) (by omega), decide_eq_true hp, Bool.true_and]
  rcases pc with q | ⟨c, hcc, q⟩
  · rw [q, inB_m1]
    simp
    rfl
  · have e1 : ¬ nI c = -1 := by rw [nIn1 (by omega)]; exact id
    rw [show csN z p = c by unfold csN; rw [q, nI_cl (by omega)], q, inB_nI (by omega) (by omega), decide_eq_true hcc, nI_cl (by omega)]
    obtain ⟨c1, c2, -, -, -, -, -, -, -, -, ⟨k, -, k2, ek⟩, -⟩ := rt_C h hcc
    rw [show z.1 (1 + 1 + 5) c = z.1 130 (36 + 5 * c + 1) from c2, ek, nI_cl (by omega)]
    simp only [e1, ↓reduceIte, true_and]
    exact k2
theorem q_okC (h : RT z.1 1 0 np nc ns nl ny ch ea) : okC z np := by
  intro i hi
  obtain ⟨-, -, n1, n2, -⟩ := rt_F h
  rcases (rt_P h hi).2.2.2.2.2.2.2.2.2.1 with q | ⟨c, hc, q⟩
  · exact Or.inl q
  · exact Or.inr ⟨c, by omega, q⟩
theorem q_l1 (h : RT z.1 1 0 np nc ns nl ny ch ea) : ∀ i, i < np → (z.1 130 (3 * i + 1) + 1 = 0) = False := by
  intro i hi
  obtain ⟨l, -, l2, el⟩ := (rt_P h hi).2.2.2.2.2.2.2.1
  rw [el, nI_1]
  exact eq_false (nI_ne0 (by omega) (by omega))
theorem q_gt (h : RT z.1 1 0 np nc ns nl ny ch ea) {p s m k : Nat} (hp : p < np) (hm : m ≤ 40) {g : Nat → Int32} (hg : g p = nI k) (hk : k ≤ 100) : gtF z s (nI m) p g = upd g p (nI (min 100 (k + lnN z s m p))) := by
  obtain ⟨hc, hm', hn⟩ := rt_F h
  obtain ⟨p1, p2, p3, p4, p5, p6, p7, ⟨l, -, l2, el⟩, p9, pc, -⟩ := rt_P h hp
  have same : upd g p (nI (min 100 (k + 0))) = g := by
    rw [Nat.add_zero, Nat.min_eq_right hk, ← hg, upd_id]
  unfold gtF lnN
  rw [bitC_bt (by omega)]
  rcases pc with q | ⟨c, hcc, q⟩
  · rw [if_neg (fun e => e.1 q), if_pos (Or.inl q), same]
  · have e1 : ¬ nI c = -1 := by rw [nIn1 (by omega)]; exact id
    rw [show csN z p = c by unfold csN; rw [q, nI_cl (by omega)], q, nI_cl (by omega)]
    obtain ⟨c1, -, -, -, -, -, -, -, -, ⟨j, -, j2, ej⟩, -⟩ := rt_C h hcc
    obtain ⟨a1, a2⟩ := ln_ar j2 hm l2
    cases hb : bt (z.1 130 (90 + 2 * s + 1)) p
    · rw [if_neg (fun e => absurd e.2 (by decide)), if_pos (Or.inr rfl), same]
    · have n2 : ¬ (nI c = -1 ∨ true = false) := fun e => e.elim e1 (fun q => absurd q (by decide))
      rw [if_pos ⟨e1, rfl⟩, if_neg n2, ej, el, nI_cl (by omega), nI_cl (by omega), hg, a1, nI_add]
      have e100 : (100 : Int32) = nI 100 := rfl
      congr 1
      by_cases q3 : 100 < k + 10 * j * m / (l + 1)
      · rw [if_pos (by rw [e100]; exact nI_lt q3 (by omega)), Nat.min_eq_left (by omega)]
        rfl
      · rw [if_neg (by rw [e100]; exact nI_nlt (by omega) (by decide)), Nat.min_eq_right (by omega)]
theorem kn_ar {k f : Nat} (hk : k ≤ 100) (hf : f ≤ 9) : nI k - nI k * nI f / 20 = nI (k - k * f / 20) ∧ k - k * f / 20 ≤ 100 := by
  have e : (20 : Int32) = nI 20 := rfl
  have h1 : k * f ≤ 900 := by
    have : k * f ≤ 100 * 9 := Nat.mul_le_mul hk hf
    omega
  have h2 : k * f / 20 ≤ k := by
    have : k * f ≤ k * 20 := Nat.mul_le_mul_left k (by omega)
    have := Nat.div_le_div_right (c := 20) this
    rw [Nat.mul_div_cancel _ (by decide)] at this
    exact this
  rw [e, nI_mul, nI_div (by omega) (by decide), xI_sub h2]
  exact ⟨rfl, by omega⟩
theorem q_an (h : RT z.1 1 0 np nc ns nl ny ch ea) {p k : Nat} (hp : p < np) {g : Nat → Int32} (hg : g p = nI k) (hk : k ≤ 100) : anF z p g = upd g p (nI (k - k * fdN z p / 20)) := by
  obtain ⟨hc, hm', hn⟩ := rt_F h
  have pc := (rt_P h hp).2.2.2.2.2.2.2.2.2.1
  unfold anF fdN
  rcases pc with q | ⟨c, hcc, q⟩
  · rw [if_pos q, if_pos q, hg, Nat.mul_zero, Nat.zero_div, Nat.sub_zero, Int32.sub_zero]
  · have e1 : ¬ nI c = -1 := by rw [nIn1 (by omega)]; exact id
    rw [show csN z p = c by unfold csN; rw [q, nI_cl (by omega)], q, nI_cl (by omega), if_neg e1, if_neg e1]
    obtain ⟨-, -, -, -, -, -, -, -, -, -, ⟨j, -, j2, ej⟩, -⟩ := rt_C h hcc
    rw [ej, nI_cl (by omega), hg, (kn_ar hk j2).1]
/-- KNOWN and what was SAT change, in both -/
theorem RT_kn {f : Nat → Nat → Int32} (h : RT z.1 1 0 np nc ns nl ny ch ea) (hk : ∀ p, p < np → f 16 p = f 130 (30 + p) ∧ rg (f 130 (30 + p)) 0 100) (hs : ∀ c, c < nc → f 17 c = f 130 (84 + c)) (hr : ∀ r, 1 ≤ r → r ≤ 19 → r ≠ 16 → r ≠ 17 → f r = z.1 r) (hS : ∀ k, k < 361 → ¬ (30 ≤ k ∧ k < 36) → ¬ (84 ≤ k ∧ k < 90) → f 130 k = z.1 130 k) : RT f 1 0 np nc ns nl ny ch ea := by
  obtain ⟨h0, hP, hC, hN, hB, hY⟩ := h
  have n := h0.2.2
  have eA : ∀ j i, j ≤ 18 → j ≠ 15 → j ≠ 16 → f (j + 1) i = z.1 (j + 1) i := fun j i h1 h2 h3 => congrFun (hr _ (by omega) (by omega) (by omega) (by omega)) i
  have eS : ∀ k, k < 361 → ¬ (30 ≤ k ∧ k < 36) → ¬ (84 ≤ k ∧ k < 90) → f 130 (k + 0) = z.1 130 (k + 0) := fun k => hS k
  refine ⟨?_, fun q hq => ?_, fun c hc => ?_, fun i hi => rN_c (fun j hj => eA j i (by omega) (by omega) (by omega)) (fun k _ hk => eS k (by omega) (by omega) (by omega)) (by omega) (hN i hi), fun i hi => rB_c (eA 17 i (by omega) (by omega) (by omega)) (eS _ (by omega) (by omega) (by omega)) (hB i (by omega)), fun i hi => rY_c (eA 18 i (by omega) (by omega) (by omega)) (eS _ (by omega) (by omega) (by omega)) (hY i (by omega))⟩
  · unfold rF
    dsimp only
    rw [eA 1 0 (by omega) (by omega) (by omega), eA 1 4 (by omega) (by omega) (by omega), eA 1 11 (by omega) (by omega) (by omega), eA 0 5 (by omega) (by omega) (by omega), eA 0 6 (by omega) (by omega) (by omega), eA 0 8 (by omega) (by omega) (by omega), eA 0 10 (by omega) (by omega) (by omega), eS 104 (by omega) (by omega) (by omega), eS 105 (by omega) (by omega) (by omega), eS 106 (by omega) (by omega) (by omega), eS 107 (by omega) (by omega) (by omega), eS 108 (by omega) (by omega) (by omega), eS 120 (by omega) (by omega) (by omega), eS 109 (by omega) (by omega) (by omega)]
    exact h0
  · obtain ⟨p1, p2, p3, p4, p5, p6, p7, p8, p9, p10, p11, p12⟩ := hP q hq
    unfold rP
    dsimp only
    rw [eA 2 q (by omega) (by omega) (by omega), eA 3 q (by omega) (by omega) (by omega), eA 4 q (by omega) (by omega) (by omega), eA 13 q (by omega) (by omega) (by omega), eA 14 q (by omega) (by omega) (by omega), eS (3 * q) (by omega) (by omega) (by omega), eS (3 * q + 1) (by omega) (by omega) (by omega), eS (3 * q + 2) (by omega) (by omega) (by omega), eS (18 + q) (by omega) (by omega) (by omega), eS (24 + q) (by omega) (by omega) (by omega)]
    exact ⟨p1, p2, p3, p4, p5, (hk q hq).1, p7, p8, p9, p10, p11, (hk q hq).2⟩
  · obtain ⟨c1, c2, c3, c4, c5, c6, c7, c8, c9, cr⟩ := hC c hc
    unfold rC
    dsimp only
    rw [eA 5 c (by omega) (by omega) (by omega), eA 6 c (by omega) (by omega) (by omega), eA 7 c (by omega) (by omega) (by omega), eA 8 c (by omega) (by omega) (by omega), eA 9 c (by omega) (by omega) (by omega), eA 10 (3 * c) (by omega) (by omega) (by omega), eA 10 (3 * c + 1) (by omega) (by omega) (by omega), eA 10 (3 * c + 2) (by omega) (by omega) (by omega), eS (36 + 5 * c + 0) (by omega) (by omega) (by omega), eS (36 + 5 * c + 1) (by omega) (by omega) (by omega), eS (36 + 5 * c + 2) (by omega) (by omega) (by omega), eS (36 + 5 * c + 3) (by omega) (by omega) (by omega), eS (36 + 5 * c + 4) (by omega) (by omega) (by omega), eS (66 + 3 * c) (by omega) (by omega) (by omega), eS (66 + 3 * c + 1) (by omega) (by omega) (by omega), eS (66 + 3 * c + 2) (by omega) (by omega) (by omega)]
    exact ⟨c1, c2, c3, c4, c5, c6, c7, c8, hs c hc, cr⟩
end RTS
theorem x_knownWith (E : zE) (d : Nat) {a b : Nat} (ha : a ≤ 100) (hb : b ≤ 3600) (h : zH) (K : Option Value → zH → Prop) : Cl E (d + 1) 124 [.int (nI a), .int (nI b)] h K = K (some (.int (nI (min 100 (a + b))))) h := by
  simp only [↓c_X8_knownWith, ↓e_X8_knownWith_0, nI_add]
  by_cases q : a + b < 100
  · rw [if_pos (show nI (a + b) < 100 from nI_lt q (by decide)), Nat.min_eq_right (by omega)]
  · rw [if_neg (show ¬ nI (a + b) < 100 from nI_nlt (b := 100) (by omega) (by omega)), Nat.min_eq_left (by omega)]
    rfl
theorem x_knownAfterNight (E : zE) (d : Nat) {a b : Nat} (ha : a ≤ 100) (hb : b ≤ 9) (h : zH) (K : Option Value → zH → Prop) : Cl E d 125 [.int (nI a), .int (nI b)] h K = K (some (.int (nI (a - a * b / 20)))) h := by
  have e : ((20 : Int32) = 0) = False := by decide
  simp only [↓c_X8_knownAfterNight, ↓e_X8_knownAfterNight_0, ↓e_X8_knownAfterNight_7, e, not_false_eq_true, true_and, (kn_ar ha hb).1]
