/-! PLAN: the reference's rows -/
theorem st_sum (z : zS) (np s m x : Nat) : ∀ n, itr (stF z np s (nI m)) n (nI x) = nI (x + m * siN z np n s)
  | 0 => by
    rw [itr_z]
    rfl
  | n + 1 => by
    rw [itr_s, st_sum z np s m x n]
    unfold stF
    have e : siN z np (n + 1) s = siN z np n s + (if sitB z np s (nI n) = true then 1 else 0) := rfl
    rw [e]
    by_cases q : sitB z np s (nI n) = true
    · rw [if_pos q, if_pos q, nI_add, Nat.mul_add, Nat.mul_one, Nat.add_assoc]
    · rw [if_neg q, if_neg q, Int32.add_zero, Nat.add_zero]
theorem stF_c {z z' : zS} (h : z'.1 130 = z.1 130) (np s : Nat) (m : Int32) : stF z' np s m = stF z np s m := by
  funext c x
  unfold stF
  rw [sitB_c h]
theorem pow74 {n d : Nat} (hn : n ≤ 7) (hd : d ≤ 4) : n ^ d ≤ 2401 := Nat.le_trans (Nat.pow_le_pow_left hn d) (Nat.pow_le_pow_right (n := 7) (by decide) hd)
/-- what the reference's locals hold -/
def bsL (z : zS) (np nc ns m dd : Nat) (o : Option Nat) (a b c : Int32) : Prop := match o with
  | none => a = -1 ∧ b = 0 ∧ c = 0
  | some j => a = nI j ∧ b = nI (lsK z np (KD z m (dg ns dd j) dd)) ∧ c = nI (m * siS z np nc (dg ns dd j) dd)
section MP
variable {z : zS} {np nc ns nl ny ch ea : Nat}
theorem m_days (E : zE) (d : Nat) (h : RT z.1 1 0 np nc ns nl ny ch ea) {m dd k : Nat} (hm : m ≤ 40) (hdd : dd ≤ 4) (hns : 0 < ns) (hk : k < ns ^ dd) {f1 : Nat → Nat → Int32} {t : (Nat → Nat → Int64) × Nat} (f1_130 : f1 130 = z.1 130) (a3 a5 a6 a7 a8 : Int32) (x12 : Option Value) (Q : Option Value → zH → Prop) (hQ : ∀ f : Nat → Nat → Int32, (∀ r, r ≠ 129 → r ≠ 137 → f r = f1 r) → (∀ p, p < np → f 137 p = nI (KD z m (dg ns dd k) dd p)) → f 129 16 = nI (m * siS z np nc (dg ns dd k) dd) → Ev E (d + 4) zm_X9_plan 162 [some (.ref 129), some (.int (nI dd)), some (.int (nI m)), some (.int a3), some (.int (nI ns)), some (.int a5), some (.int a6), some (.int a7), some (.int a8), some (.int (nI k)), some (.int 1), some (.int (nI dd)), x12] [] (HP (f, t)) Q) : ∀ j t' (f : Nat → Nat → Int32), t' + j = dd → (∀ r, r ≠ 129 → r ≠ 137 → f r = f1 r) → (∀ p, p < np → f 137 p = nI (KD z m (dg ns dd k) t' p)) → f 129 16 = nI (m * siS z np nc (dg ns dd k) t') → Ev E (d + 4) zm_X9_plan 126 [some (.ref 129), some (.int (nI dd)), some (.int (nI m)), some (.int a3), some (.int (nI ns)), some (.int a5), some (.int a6), some (.int a7), some (.int a8), some (.int (nI k)), some (.int (nI (ns ^ (dd - t')))), some (.int (nI t')), x12] [] (HP (f, t)) Q := by
  obtain ⟨hc, hmm, hn⟩ := rt_F h
  have p74 : ∀ e, e ≤ 4 → ns ^ e ≤ 2401 := fun e he => pow74 hn.2.2.1 he
  have hk' : k < 2401 := Nat.lt_of_lt_of_le hk (p74 dd hdd)
  intro j
  induction j with
  | zero =>
    intro t' f htj hf hkn hsi
    have e : t' = dd := by omega
    subst e
    have q := hQ f hf hkn hsi
    rw [Nat.sub_self, Nat.pow_zero, show nI 1 = 1 from rfl]
    rw [e_X9_plan_126]
    simp only [↓e_X9_plan_9, ↓e_X9_plan_12, ↓e_X9_plan_21, ↓e_X9_plan_24, ↓e_X9_plan_36, ↓e_X9_plan_39, ↓e_X9_plan_43, ↓e_X9_plan_44, ↓e_X9_plan_48, ↓e_X9_plan_51, ↓e_X9_plan_58, ↓e_X9_plan_65, ↓e_X9_plan_66, ↓e_X9_plan_78, ↓e_X9_plan_91, ↓e_X9_plan_110, ↓e_X9_plan_118, ↓e_X9_plan_123, ↓e_X9_plan_132, ↓e_X9_plan_137, ↓e_X9_plan_145, ↓e_X9_plan_148, ↓e_X9_plan_152, ↓e_X9_plan_156, ↓e_X9_plan_166, ↓e_X9_plan_174, ↓e_X9_plan_181, ↓e_X9_plan_188, ↓e_X9_plan_192, ↓e_X9_plan_197, ↓e_X9_plan_201, ↓e_X9_plan_202, ↓e_X9_plan_209, ↓e_X9_plan_214, ↓e_X9_plan_216, ↓e_X9_plan_223, ↓e_X9_plan_228, ↓e_X9_plan_230, ↓e_X9_plan_237, ↓e_X9_plan_241, ↓e_X9_plan_244, ↓e_X9_plan_246, ↓e_X9_plan_254, ↓e_X9_plan_267, ↓e_X9_plan_272, ↓e_X9_plan_280, ↓e_X9_plan_285, ↓e_X9_plan_290, ↓e_X9_plan_295, ↓e_X9_plan_298, nI_lt_iff (show t' < 2 ^ 31 by omega) (show t' < 2 ^ 31 by omega), Nat.lt_irrefl, zk_i, zk_r, zk_n, ↓reduceIte]
    exact q
  | succ j ih =>
    intro t' f htj hf hkn hsi
    have ht : t' < dd := by omega
    have f130 : f 130 = z.1 130 := by rw [hf 130 (by decide) (by decide), f1_130]
    have pe : ns ^ (dd - t') / ns = ns ^ (dd - (t' + 1)) := by
      rw [show dd - t' = (dd - (t' + 1)) + 1 by omega, Nat.pow_succ, Nat.mul_div_cancel _ hns]
    have ppos : 0 < ns ^ (dd - (t' + 1)) := Nat.pow_pos hns
    have pb1 := p74 (dd - t') (by omega)
    have pb2 := p74 (dd - (t' + 1)) (by omega)
    have d1 : nI (ns ^ (dd - t')) / nI ns = nI (ns ^ (dd - (t' + 1))) := by rw [nI_div (by omega) (by omega), pe]
    have d2 : nI k / nI (ns ^ (dd - (t' + 1))) = nI (k / ns ^ (dd - (t' + 1))) := nI_div (by omega) (by omega)
    have hkd : k / ns ^ (dd - (t' + 1)) ≤ k := Nat.div_le_self _ _
    have d3 : nI (k / ns ^ (dd - (t' + 1))) - nI (k / ns ^ (dd - (t' + 1))) / nI ns * nI ns = nI (dg ns dd k t') := by
      rw [nI_mod (by omega) (by omega)]
      unfold dg
      rw [show dd - 1 - t' = dd - (t' + 1) by omega]
    have hs : dg ns dd k t' < ns := dg_lt hns dd k t'
    have z1 : (nI ns = 0) = False := eq_false (nI_ne0 hns (by omega))
    have z2 : (nI (ns ^ (dd - (t' + 1))) = 0) = False := eq_false (nI_ne0 ppos (by omega))
    have gt := m_goesThrough E (d + 1) (z := (f, t)) hn.1 hn.2.1 (show dg ns dd k t' < 7 by omega) (nI m) (show f 130 104 = nI np by rw [f130]; exact hmm.1) (show f 130 105 = nI nc by rw [f130]; exact hmm.2.1) (okC_c (z := z) f130.symm (q_okC h)) (fun i hi => by show (f 130 (3 * i + 1) + 1 = 0) = False; rw [f130]; exact q_l1 h i hi)
    obtain ⟨f2, hf2⟩ : ∃ g : Nat → Nat → Int32, g = setR (setR f 137 (itr (gtF (f, t) (dg ns dd k t') (nI m)) np (f 137))) 129 (upd (f 129) 16 (itr (stF (f, t) np (dg ns dd k t') (nI m)) nc (f 129 16))) := ⟨_, rfl⟩
    rw [show ((f, t) : zS).1 = f from rfl, show ((f, t) : zS).2 = t from rfl, ← hf2] at gt
    have r2 : ∀ r, r ≠ 129 → r ≠ 137 → f2 r = f r := fun r h1 h2 => by rw [hf2, setR_n h1, setR_n h2]
    have f2_130 : f2 130 = z.1 130 := by rw [r2 130 (by decide) (by decide), f130]
    have g2 : ∀ p, p < np → f2 137 p = nI (min 100 (KD z m (dg ns dd k) t' p + lnN z (dg ns dd k t') m p)) := fun p hp => by
      rw [hf2, setR_n (by decide), setR_s, gtF_c (z := z) f130, itr_gt h (k := KD z m (dg ns dd k) t') hm (fun q hq => ⟨hkn q hq, KD_le h hq t'⟩) np (Nat.le_refl _), itr_updv (fun p => nI (min 100 (KD z m (dg ns dd k) t' p + lnN z (dg ns dd k t') m p))), if_pos hp]
    have s2 : f2 129 16 = nI (m * siS z np nc (dg ns dd k) (t' + 1)) := by
      rw [hf2, setR_s, upd_s, stF_c (z := z) f130, hsi, st_sum, ← Nat.mul_add]
      rfl
    have an := m_aNight E (d + 2) (z := (f2, t)) hn.1 (show f2 130 104 = nI np by rw [f2_130]; exact hmm.1) (okC_c (z := z) f2_130.symm (q_okC h))
    obtain ⟨f3, hf3⟩ : ∃ g : Nat → Nat → Int32, g = setR f2 137 (itr (anF (f2, t)) np (f2 137)) := ⟨_, rfl⟩
    rw [show ((f2, t) : zS).1 = f2 from rfl, show ((f2, t) : zS).2 = t from rfl, ← hf3] at an
    have r3 : ∀ r, r ≠ 137 → f3 r = f2 r := fun r h1 => by rw [hf3, setR_n h1]
    have g3 : ∀ p, p < np → f3 137 p = nI (KD z m (dg ns dd k) (t' + 1) p) := fun p hp => by
      rw [hf3, setR_s, anF_c (z := z) f2_130, itr_an h (k := fun p => min 100 (KD z m (dg ns dd k) t' p + lnN z (dg ns dd k t') m p)) (fun q hq => ⟨g2 q hq, Nat.min_le_left _ _⟩) np (Nat.le_refl _), itr_updv (fun p => nI (min 100 (KD z m (dg ns dd k) t' p + lnN z (dg ns dd k t') m p) - min 100 (KD z m (dg ns dd k) t' p + lnN z (dg ns dd k t') m p) * fdN z p / 20)), if_pos hp]
      rfl
    have nx := ih (t' + 1) f3 (by omega) (fun r h1 h2 => by rw [r3 r h2, r2 r h1 h2, hf r h1 h2]) g3 (by rw [r3 129 (by decide)]; exact s2)
    rw [e_X9_plan_126]
    simp only [↓e_X9_plan_9, ↓e_X9_plan_12, ↓e_X9_plan_21, ↓e_X9_plan_24, ↓e_X9_plan_36, ↓e_X9_plan_39, ↓e_X9_plan_43, ↓e_X9_plan_44, ↓e_X9_plan_48, ↓e_X9_plan_51, ↓e_X9_plan_58, ↓e_X9_plan_65, ↓e_X9_plan_66, ↓e_X9_plan_78, ↓e_X9_plan_91, ↓e_X9_plan_110, ↓e_X9_plan_118, ↓e_X9_plan_123, ↓e_X9_plan_132, ↓e_X9_plan_137, ↓e_X9_plan_145, ↓e_X9_plan_148, ↓e_X9_plan_152, ↓e_X9_plan_156, ↓e_X9_plan_166, ↓e_X9_plan_174, ↓e_X9_plan_181, ↓e_X9_plan_188, ↓e_X9_plan_192, ↓e_X9_plan_197, ↓e_X9_plan_201, ↓e_X9_plan_202, ↓e_X9_plan_209, ↓e_X9_plan_214, ↓e_X9_plan_216, ↓e_X9_plan_223, ↓e_X9_plan_228, ↓e_X9_plan_230, ↓e_X9_plan_237, ↓e_X9_plan_241, ↓e_X9_plan_244, ↓e_X9_plan_246, ↓e_X9_plan_254, ↓e_X9_plan_267, ↓e_X9_plan_272, ↓e_X9_plan_280, ↓e_X9_plan_285, ↓e_X9_plan_290, ↓e_X9_plan_295, ↓e_X9_plan_298, v9 o9_129, z1, z2, d1, d2, d3, gt, an, not_false_eq_true, true_and, zps_n, nI_lt_iff (show t' < 2 ^ 31 by omega) (show dd < 2 ^ 31 by omega), ht, nI_1, zk_i, zk_r, zk_n, ↓reduceIte]
    exact nx
theorem lk_n (h : RT z.1 1 0 np nc ns nl ny ch ea) {f : Nat → Nat → Int32} {k : Nat → Nat} (f130 : f 130 = z.1 130) (hk : ∀ p, p < np → f 137 p = nI (k p) ∧ k p ≤ 100) : ∀ n, n ≤ np → itr (fun i b => if 0 < f 130 (3 * i + 1) ∧ f 137 i < b then f 137 i else b) n 100 = nI (lsK z n k)
  | 0, _ => rfl
  | n + 1, hn => by
    obtain ⟨k1, k2⟩ := hk n (by omega)
    have ll := lsK_le z k n
    rw [itr_s, lk_n h f130 hk n (by omega), f130, k1]
    have e : lsK z (n + 1) k = if 0 < z.1 130 (3 * n + 1) ∧ k n < lsK z n k then k n else lsK z n k := rfl
    have el : (nI (k n) < nI (lsK z n k)) = (k n < lsK z n k) := nI_lt_iff (by omega) (by omega)
    rw [e]
    by_cases q1 : 0 < z.1 130 (3 * n + 1)
    · by_cases q2 : k n < lsK z n k
      · rw [if_pos ⟨q1, by rw [el]; exact q2⟩, if_pos ⟨q1, q2⟩]
      · rw [if_neg (fun x => q2 (by rw [← el]; exact x.2)), if_neg (fun x => q2 x.2)]
    · rw [if_neg (fun x => q1 x.1), if_neg (fun x => q1 x.1)]
end MP
