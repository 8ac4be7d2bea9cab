/-! CastSearch: castFrom goes over all rows -/
theorem pow_blk (n m q c : Nat) : (q * n + c) * n ^ m = q * n ^ (m + 1) + c * n ^ m := by
  rw [Nat.add_mul, Nat.pow_succ, Nat.mul_assoc, Nat.mul_comm n (n ^ m)]
def cfP (n np part q m ea : Nat) (cm : Nat → Int32) (aw : Int32) (pts : Nat → Nat → Int) (f : Nat → Nat → Int32) (t : (Nat → Nat → Int64) × Nat) (r : Option Value) (z' : zS) : Prop := r = none ∧ z'.2 = t ∧ Fc part f z'.1 ∧ ∃ o, Pk (Vd n np cm aw ea) (scd n np pts) ((q + 1) * n ^ m) o ∧ SR z'.1 n np pts o
theorem i40 : isI 40 36 := rfl
theorem i41 : isI 41 7 := rfl
theorem i42 : isI 42 6 := rfl
theorem i43 : isI 43 6 := rfl
theorem i44 : isI 44 6 := rfl
theorem cf_entry (E : zE) (d : Nat) {np part w : Nat} {s : Int} {c : Int} {f : Nat → Nat → Int32} {t : (Nat → Nat → Int64) × Nat} (Q : Option Value → zH → Prop) (h6 : np ≤ 6) (hp : part ≤ np) (hw : w ≤ 6) (h3 : f 38 3 = nI np) (h41 : f 41 part = iI c) (hf : f 38 0 = 0 ∨ f 38 0 = 1) (q1 : np - part < w → Q none (HP (f, t))) (q2 : f 38 0 = 1 → ¬ f 38 1 < iI (s + c) → Q none (HP (f, t))) (q3 : ¬ np - part < w → (f 38 0 = 1 → f 38 1 < iI (s + c)) → part < np → Ev E (d + 1) zm_X0_castFrom 61 [some (.ref 38), some (.int (nI part)), some (.int (iI s)), some (.int (nI w)), some (.int 0), none, none] [] (HP (f, t)) Q) (q4 : ¬ np - part < w → (f 38 0 = 1 → f 38 1 < iI (s + c)) → part = np → Q none (HP (setR (set2 (set2 f 38 0 1) 38 1 (iI s)) 39 (itr (fun i g => upd g i (f 43 i)) 6 (f 39)), t))) : Cl E (d + 1) 8 [.ref 38, .int (nI part), .int (iI s), .int (nI w)] (HP (f, t)) Q := by
  have e6 : ((6 : Int32) < nI part) = False := eq_false (nI_nlt (a := 6) (by omega) (by decide))
  have e1 : nI np - nI part = nI (np - part) := xI_sub hp
  have e2 : (nI (np - part) < nI w) = (np - part < w) := nI_lt_iff (by omega) (by omega)
  have e3 : (nI part < nI np) = (part < np) := nI_lt_iff (by omega) (by omega)
  by_cases c1 : np - part < w
  · simp only [↓c_X0_castFrom, ↓e_X0_castFrom_0, ↓e_X0_castFrom_4, ↓e_X0_castFrom_10, ↓e_X0_castFrom_15, ↓e_X0_castFrom_20, ↓e_X0_castFrom_21, ↓e_X0_castFrom_25, ↓e_X0_castFrom_28, ↓e_X0_castFrom_33, ↓e_X0_castFrom_35, ↓e_X0_castFrom_40, ↓e_X0_castFrom_43, ↓e_X0_castFrom_44, ↓e_X0_castFrom_49, ↓e_X0_castFrom_52, ↓e_X0_castFrom_57, ↓e_X0_castFrom_58, ↓e_X0_castFrom_67, ↓e_X0_castFrom_70, ↓e_X0_castFrom_76, ↓e_X0_castFrom_79, ↓e_X0_castFrom_83, ↓e_X0_castFrom_86, ↓e_X0_castFrom_90, ↓e_X0_castFrom_92, ↓e_X0_castFrom_96, ↓e_X0_castFrom_100, ↓e_X0_castFrom_103, ↓e_X0_castFrom_109, ↓e_X0_castFrom_118, ↓e_X0_castFrom_122, ↓e_X0_castFrom_126, ↓e_X0_castFrom_131, ↓e_X0_castFrom_135, ↓e_X0_castFrom_139, ↓e_X0_castFrom_145, ↓e_X0_castFrom_146, ↓e_X0_castFrom_157, ↓e_X0_castFrom_165, ↓e_X0_castFrom_171, ↓e_X0_castFrom_175, ↓e_X0_castFrom_180, ↓e_X0_castFrom_186, nI_neg (show part < 2 ^ 31 by omega), e6, g0 o0_38, Nat.reduceAdd, h3, e1, e2, c1, zk_i, zk_r, zk_n, ↓reduceIte]
    exact q1 c1
  · rcases hf with f0 | f1
    · by_cases c3 : part < np
      · simp only [↓c_X0_castFrom, ↓e_X0_castFrom_0, ↓e_X0_castFrom_4, ↓e_X0_castFrom_10, ↓e_X0_castFrom_15, ↓e_X0_castFrom_20, ↓e_X0_castFrom_21, ↓e_X0_castFrom_25, ↓e_X0_castFrom_28, ↓e_X0_castFrom_33, ↓e_X0_castFrom_35, ↓e_X0_castFrom_40, ↓e_X0_castFrom_43, ↓e_X0_castFrom_44, ↓e_X0_castFrom_49, ↓e_X0_castFrom_52, ↓e_X0_castFrom_57, ↓e_X0_castFrom_58, ↓e_X0_castFrom_67, ↓e_X0_castFrom_70, ↓e_X0_castFrom_76, ↓e_X0_castFrom_79, ↓e_X0_castFrom_83, ↓e_X0_castFrom_86, ↓e_X0_castFrom_90, ↓e_X0_castFrom_92, ↓e_X0_castFrom_96, ↓e_X0_castFrom_100, ↓e_X0_castFrom_103, ↓e_X0_castFrom_109, ↓e_X0_castFrom_118, ↓e_X0_castFrom_122, ↓e_X0_castFrom_126, ↓e_X0_castFrom_131, ↓e_X0_castFrom_135, ↓e_X0_castFrom_139, ↓e_X0_castFrom_145, ↓e_X0_castFrom_146, ↓e_X0_castFrom_157, ↓e_X0_castFrom_165, ↓e_X0_castFrom_171, ↓e_X0_castFrom_175, ↓e_X0_castFrom_180, ↓e_X0_castFrom_186, nI_neg (show part < 2 ^ 31 by omega), e6, g0 o0_38, Nat.reduceAdd, h3, e1, e2, e3, c1, c3, f0, zk_i, zk_r, zk_n, ↓reduceIte]
        exact q3 c1 (fun q => by rw [f0] at q; exact absurd q (by decide)) c3
      · simp only [↓c_X0_castFrom, ↓e_X0_castFrom_0, ↓e_X0_castFrom_4, ↓e_X0_castFrom_10, ↓e_X0_castFrom_15, ↓e_X0_castFrom_20, ↓e_X0_castFrom_21, ↓e_X0_castFrom_25, ↓e_X0_castFrom_28, ↓e_X0_castFrom_33, ↓e_X0_castFrom_35, ↓e_X0_castFrom_40, ↓e_X0_castFrom_43, ↓e_X0_castFrom_44, ↓e_X0_castFrom_49, ↓e_X0_castFrom_52, ↓e_X0_castFrom_57, ↓e_X0_castFrom_58, ↓e_X0_castFrom_67, ↓e_X0_castFrom_70, ↓e_X0_castFrom_76, ↓e_X0_castFrom_79, ↓e_X0_castFrom_83, ↓e_X0_castFrom_86, ↓e_X0_castFrom_90, ↓e_X0_castFrom_92, ↓e_X0_castFrom_96, ↓e_X0_castFrom_100, ↓e_X0_castFrom_103, ↓e_X0_castFrom_109, ↓e_X0_castFrom_118, ↓e_X0_castFrom_122, ↓e_X0_castFrom_126, ↓e_X0_castFrom_131, ↓e_X0_castFrom_135, ↓e_X0_castFrom_139, ↓e_X0_castFrom_145, ↓e_X0_castFrom_146, ↓e_X0_castFrom_157, ↓e_X0_castFrom_165, ↓e_X0_castFrom_171, ↓e_X0_castFrom_175, ↓e_X0_castFrom_180, ↓e_X0_castFrom_186, nI_neg (show part < 2 ^ 31 by omega), e6, g0 o0_38, v0 o0_38, Nat.reduceAdd, h3, e1, e2, e3, c1, c3, f0, x_keep, zps_n, zk_i, zk_r, zk_n, ↓reduceIte]
        exact q4 c1 (fun q => by rw [f0] at q; exact absurd q (by decide)) (by omega)
    · by_cases c2 : f 38 1 < iI (s + c)
      · by_cases c3 : part < np
        · simp only [↓c_X0_castFrom, ↓e_X0_castFrom_0, ↓e_X0_castFrom_4, ↓e_X0_castFrom_10, ↓e_X0_castFrom_15, ↓e_X0_castFrom_20, ↓e_X0_castFrom_21, ↓e_X0_castFrom_25, ↓e_X0_castFrom_28, ↓e_X0_castFrom_33, ↓e_X0_castFrom_35, ↓e_X0_castFrom_40, ↓e_X0_castFrom_43, ↓e_X0_castFrom_44, ↓e_X0_castFrom_49, ↓e_X0_castFrom_52, ↓e_X0_castFrom_57, ↓e_X0_castFrom_58, ↓e_X0_castFrom_67, ↓e_X0_castFrom_70, ↓e_X0_castFrom_76, ↓e_X0_castFrom_79, ↓e_X0_castFrom_83, ↓e_X0_castFrom_86, ↓e_X0_castFrom_90, ↓e_X0_castFrom_92, ↓e_X0_castFrom_96, ↓e_X0_castFrom_100, ↓e_X0_castFrom_103, ↓e_X0_castFrom_109, ↓e_X0_castFrom_118, ↓e_X0_castFrom_122, ↓e_X0_castFrom_126, ↓e_X0_castFrom_131, ↓e_X0_castFrom_135, ↓e_X0_castFrom_139, ↓e_X0_castFrom_145, ↓e_X0_castFrom_146, ↓e_X0_castFrom_157, ↓e_X0_castFrom_165, ↓e_X0_castFrom_171, ↓e_X0_castFrom_175, ↓e_X0_castFrom_180, ↓e_X0_castFrom_186, nI_neg (show part < 2 ^ 31 by omega), e6, g0 o0_38, Nat.reduceAdd, h3, e1, e2, e3, c1, c2, c3, f1, i01, ri_k i41 (show part < 7 by omega) (by decide), h41, iI_add, zk_i, zk_r, zk_n, ↓reduceIte]
          exact q3 c1 (fun _ => c2) c3
        · simp only [↓c_X0_castFrom, ↓e_X0_castFrom_0, ↓e_X0_castFrom_4, ↓e_X0_castFrom_10, ↓e_X0_castFrom_15, ↓e_X0_castFrom_20, ↓e_X0_castFrom_21, ↓e_X0_castFrom_25, ↓e_X0_castFrom_28, ↓e_X0_castFrom_33, ↓e_X0_castFrom_35, ↓e_X0_castFrom_40, ↓e_X0_castFrom_43, ↓e_X0_castFrom_44, ↓e_X0_castFrom_49, ↓e_X0_castFrom_52, ↓e_X0_castFrom_57, ↓e_X0_castFrom_58, ↓e_X0_castFrom_67, ↓e_X0_castFrom_70, ↓e_X0_castFrom_76, ↓e_X0_castFrom_79, ↓e_X0_castFrom_83, ↓e_X0_castFrom_86, ↓e_X0_castFrom_90, ↓e_X0_castFrom_92, ↓e_X0_castFrom_96, ↓e_X0_castFrom_100, ↓e_X0_castFrom_103, ↓e_X0_castFrom_109, ↓e_X0_castFrom_118, ↓e_X0_castFrom_122, ↓e_X0_castFrom_126, ↓e_X0_castFrom_131, ↓e_X0_castFrom_135, ↓e_X0_castFrom_139, ↓e_X0_castFrom_145, ↓e_X0_castFrom_146, ↓e_X0_castFrom_157, ↓e_X0_castFrom_165, ↓e_X0_castFrom_171, ↓e_X0_castFrom_175, ↓e_X0_castFrom_180, ↓e_X0_castFrom_186, nI_neg (show part < 2 ^ 31 by omega), e6, g0 o0_38, v0 o0_38, Nat.reduceAdd, h3, e1, e2, e3, c1, c2, c3, f1, i01, ri_k i41 (show part < 7 by omega) (by decide), h41, iI_add, x_keep, zps_n, zk_i, zk_r, zk_n, ↓reduceIte]
          exact q4 c1 (fun _ => c2) (by omega)
      · simp only [↓c_X0_castFrom, ↓e_X0_castFrom_0, ↓e_X0_castFrom_4, ↓e_X0_castFrom_10, ↓e_X0_castFrom_15, ↓e_X0_castFrom_20, ↓e_X0_castFrom_21, ↓e_X0_castFrom_25, ↓e_X0_castFrom_28, ↓e_X0_castFrom_33, ↓e_X0_castFrom_35, ↓e_X0_castFrom_40, ↓e_X0_castFrom_43, ↓e_X0_castFrom_44, ↓e_X0_castFrom_49, ↓e_X0_castFrom_52, ↓e_X0_castFrom_57, ↓e_X0_castFrom_58, ↓e_X0_castFrom_67, ↓e_X0_castFrom_70, ↓e_X0_castFrom_76, ↓e_X0_castFrom_79, ↓e_X0_castFrom_83, ↓e_X0_castFrom_86, ↓e_X0_castFrom_90, ↓e_X0_castFrom_92, ↓e_X0_castFrom_96, ↓e_X0_castFrom_100, ↓e_X0_castFrom_103, ↓e_X0_castFrom_109, ↓e_X0_castFrom_118, ↓e_X0_castFrom_122, ↓e_X0_castFrom_126, ↓e_X0_castFrom_131, ↓e_X0_castFrom_135, ↓e_X0_castFrom_139, ↓e_X0_castFrom_145, ↓e_X0_castFrom_146, ↓e_X0_castFrom_157, ↓e_X0_castFrom_165, ↓e_X0_castFrom_171, ↓e_X0_castFrom_175, ↓e_X0_castFrom_180, ↓e_X0_castFrom_186, nI_neg (show part < 2 ^ 31 by omega), e6, g0 o0_38, Nat.reduceAdd, h3, e1, e2, c1, c2, f1, i01, ri_k i41 (show part < 7 by omega) (by decide), h41, iI_add, zk_i, zk_r, zk_n, ↓reduceIte]
        exact q2 f1 c2
theorem cnt_le (P : Nat → Bool) : ∀ n, cnt P n ≤ n
  | 0 => Nat.le_refl 0
  | n + 1 => by
    have := cnt_le P n
    show cnt P n + _ ≤ n + 1
    split <;> omega
theorem SR_01 {f : Nat → Nat → Int32} {n np : Nat} {pts : Nat → Nat → Int} {o : Option Nat} (h : SR f n np pts o) : f 38 0 = 0 ∨ f 38 0 = 1 := by
  cases o with
  | none => exact Or.inl h
  | some j => exact Or.inr h.1
theorem SR_some {f : Nat → Nat → Int32} {n np : Nat} {pts : Nat → Nat → Int} {o : Option Nat} (h : SR f n np pts o) (h1 : f 38 0 = 1) : ∃ j, o = some j ∧ f 38 1 = iI (scd n np pts j) := by
  cases o with
  | none => rw [show f 38 0 = 0 from h] at h1; exact absurd h1 (by decide)
  | some j => exact ⟨j, rfl, h.2.1⟩
theorem Fc_id (part : Nat) (f : Nat → Nat → Int32) : Fc part f f := ⟨fun _ _ _ _ => rfl, fun _ _ => rfl, fun _ _ => rfl⟩
/-- the two ways to leave at once -/
theorem cf_skip {n np ea part q m : Nat} {cm : Nat → Int32} {aw : Int32} {pts : Nat → Nat → Int} {ce mx : Nat → Int} (hO : Ok n np ea aw pts ce mx) (hpm : part + m = np) {f : Nat → Nat → Int32} {t : (Nat → Nat → Int64) × Nat} {o : Option Nat} (hPk : Pk (Vd n np cm aw ea) (scd n np pts) (q * n ^ m) o) (hSR : SR f n np pts o) : (np - part < (if ea = 1 then un n part (dg n part q) else 0) → cfP n np part q m ea cm aw pts f t none (f, t)) ∧ (0 < n → f 38 0 = 1 → ¬ f 38 1 < iI (sm (fun p => pts p (dg n part q p)) part + ce part) → cfP n np part q m ea cm aw pts f t none (f, t)) := by
  have hB : q * n ^ m ≤ (q + 1) * n ^ m := Nat.mul_le_mul_right _ (by omega)
  refine ⟨fun hw => ?_, fun hn0 f1 hle => ?_⟩
  · refine ⟨rfl, rfl, Fc_id _ _, o, Pk_skip hPk hB (fun k k1 k2 hv => ?_), hSR⟩
    have he : ea = 1 := Classical.byContradiction (fun q => by rw [if_neg q] at hw; omega)
    subst he
    rw [if_pos rfl] at hw
    exact absurd hv (blk_w hpm (blk_of k1 k2) (by omega))
  · refine ⟨rfl, rfl, Fc_id _ _, o, Pk_skip hPk hB (fun k k1 k2 hv => ?_), hSR⟩
    obtain ⟨j, ej, e1⟩ := SR_some hSR f1
    refine ⟨j, ej, ?_⟩
    have hb := blk_c hO hn0 hpm (blk_of k1 k2) hv
    have hj := sc_bd hO (Nat.le_refl np) (D := dg n np j) (fun p _ => dg_lt hn0 _ _ _)
    have hs := sc_bd hO (show part ≤ np by omega) (D := dg n part q) (fun p _ => dg_lt hn0 _ _ _)
    have hc := hO.2.2.2.2.1 part (by omega)
    rw [e1, iI_lt (by unfold scd; omega) (by unfold scd; omega) (by omega) (by omega)] at hle
    omega
theorem cf_pos {n np ea part q m : Nat} {cm : Nat → Int32} {aw : Int32} {pts : Nat → Nat → Int} (hn : 0 < n ∨ (part = 0 ∧ q = 0)) {f : Nat → Nat → Int32} {o : Option Nat} (hPk : Pk (Vd n np cm aw ea) (scd n np pts) (q * n ^ m) o) (hSR : SR f n np pts o) (h1 : f 38 0 = 1) : 0 < n := by
  rcases hn with hn | ⟨rfl, rfl⟩
  · exact hn
  · obtain ⟨j, rfl, -⟩ := SR_some hSR h1
    have := hPk.1
    omega
theorem cf_leaf {n np ea q : Nat} {cm : Nat → Int32} {aw : Int32} {pts : Nat → Nat → Int} {ce mx : Nat → Int} (hO : Ok n np ea aw pts ce mx) (hn : 0 < n ∨ (np = 0 ∧ q = 0)) {f : Nat → Nat → Int32} {t : (Nat → Nat → Int64) × Nat} {o : Option Nat} (hPk : Pk (Vd n np cm aw ea) (scd n np pts) (q * n ^ 0) o) (hSR : SR f n np pts o) (hpre : Pre f n np q) (hv1 : ∀ a, a < np → ∀ b, b < a → dg n np q a = dg n np q b → bt (cm a) b = false) (hv2 : ∀ a, a < np → nI (dg n np q a) ≠ aw) (hw : ¬ np - np < (if ea = 1 then un n np (dg n np q) else 0)) (hb : f 38 0 = 1 → f 38 1 < iI (sm (fun p => pts p (dg n np q p)) np + ce np)) : cfP n np np q 0 ea cm aw pts f t none (setR (set2 (set2 f 38 0 1) 38 1 (iI (sm (fun p => pts p (dg n np q p)) np))) 39 (itr (fun i g => upd g i (f 43 i)) 6 (f 39)), t) := by
  have h6 := hO.2.1
  rw [Nat.pow_zero, Nat.mul_one] at hPk
  have hV : Vd n np cm aw ea q := ⟨hv1, hv2, fun he => by
    rw [if_pos he] at hw
    exact (un_z n np (dg n np q)).mp (by omega)⟩
  refine ⟨rfl, rfl, ⟨fun r h1 h2 h3 => ?_, fun i hi => ?_, fun p hp => ?_⟩, some q, ?_, ?_, ?_, fun p hp => ?_⟩
  · dsimp only
    rw [setR_n h2, set2_a h1, set2_a h1]
  · dsimp only
    rw [setR_n (by decide), set2_n (Or.inr (by omega)), set2_n (Or.inr (by omega))]
  · dsimp only
    rw [setR_n (by decide), set2_a (by decide), set2_a (by decide)]
  · rw [Nat.pow_zero, Nat.mul_one]
    refine Pk_take hPk hV (fun j ej => ?_)
    subst ej
    have hlt := hb hSR.1
    have hn0 : 0 < n := by
      rcases hn with hn | ⟨-, rfl⟩
      · exact hn
      · exact absurd hPk.1 (by omega)
    have hj := sc_bd hO (Nat.le_refl np) (D := dg n np j) (fun p _ => dg_lt hn0 _ _ _)
    have hq := sc_bd hO (Nat.le_refl np) (D := dg n np q) (fun p _ => dg_lt hn0 _ _ _)
    rw [hSR.2.1, hO.2.2.2.2.2.1, iI_lt (by unfold scd; omega) (by unfold scd; omega) (by omega) (by omega)] at hlt
    unfold scd at hlt ⊢
    omega
  · dsimp only
    rw [setR_n (by decide), set2_n (Or.inr (by decide)), set2_s]
  · dsimp only
    rw [setR_n (by decide), set2_s]
    rfl
  · dsimp only
    rw [setR_s, itr_updv (f 43), if_pos (by omega)]
    exact hpre.1 p hp
theorem SR_c {f f' : Nat → Nat → Int32} {n np : Nat} {pts : Nat → Nat → Int} {o : Option Nat} (h38 : f' 38 = f 38) (h39 : f' 39 = f 39) (h : SR f n np pts o) : SR f' n np pts o := by
  cases o with
  | none =>
    show f' 38 0 = 0
    rw [h38]
    exact h
  | some j =>
    show f' 38 0 = 1 ∧ f' 38 1 = _ ∧ ∀ p, p < np → f' 39 p = _
    rw [h38, h39]
    exact h
set_option maxRecDepth 100000 in
theorem x_cf (E : zE) (d : Nat) {n np ea : Nat} {cm : Nat → Int32} {aw : Int32} {pts : Nat → Nat → Int} {ce mx : Nat → Int} (hO : Ok n np ea aw pts ce mx) : ∀ m part q (f : Nat → Nat → Int32) (t : (Nat → Nat → Int64) × Nat), part + m = np → (0 < n ∨ (part = 0 ∧ q = 0)) → Dt f n np cm aw ea pts ce → Pre f n part q → (∀ a, a < part → ∀ b, b < a → dg n part q a = dg n part q b → bt (cm a) b = false) → (∀ a, a < part → nI (dg n part q a) ≠ aw) → (∃ o, Pk (Vd n np cm aw ea) (scd n np pts) (q * n ^ m) o ∧ SR f n np pts o) → Hr E (d + m + 1) 8 [.ref 38, .int (nI part), .int (iI (sm (fun p => pts p (dg n part q p)) part)), .int (nI (if ea = 1 then un n part (dg n part q) else 0))] (f, t) (cfP n np part q m ea cm aw pts f t) := by
  intro m
  have hO' := hO
  obtain ⟨n6, np6, ea1, hpts, hce, hce0, hces, hmx⟩ := hO'
  have hun : ∀ part D, un n part D ≤ 6 := fun part D => Nat.le_trans (cnt_le _ n) n6
  induction m with
  | zero =>
    intro part q f t hpm hn hD hpre hv1 hv2 ⟨o, hPk, hSR⟩
    have e : part = np := by omega
    subst e
    obtain ⟨s1, s2⟩ := cf_skip (t := t) hO hpm hPk hSR
    refine cf_entry E d (c := ce part) _ np6 (Nat.le_refl _) (by split; exact hun _ _; omega) hD.1 (hD.2.2.2.2.2.1 part (Nat.le_refl _)) (SR_01 hSR) (fun hw => ⟨_, rfl, s1 hw⟩) (fun f1 hle => ⟨_, rfl, s2 (cf_pos hn hPk hSR f1) f1 hle⟩) (fun _ _ q => absurd q (Nat.lt_irrefl _)) (fun hw hb _ => ⟨_, rfl, cf_leaf hO hn hPk hSR hpre hv1 hv2 hw hb⟩)
  | succ m ih =>
    intro part q f t hpm hn hD hpre hv1 hv2 ⟨o, hPk, hSR⟩
    obtain ⟨s1, s2⟩ := cf_skip (t := t) hO hpm hPk hSR
    refine cf_entry E (d + m + 1) (c := ce part) _ np6 (by omega) (by split; exact hun _ _; omega) hD.1 (hD.2.2.2.2.2.1 part (by omega)) (SR_01 hSR) (fun hw => ⟨_, rfl, s1 hw⟩) (fun f1 hle => ⟨_, rfl, s2 (cf_pos hn hPk hSR f1) f1 hle⟩) (fun hw hb hlt => ?_) (fun _ _ q => by omega)
    obtain ⟨W, hW⟩ : ∃ W, W = (if ea = 1 then un n part (dg n part q) else 0) := ⟨_, rfl⟩
    obtain ⟨S, hS⟩ : ∃ S, S = sm (fun p => pts p (dg n part q p)) part := ⟨_, rfl⟩
    rw [← hW, ← hS]
    have hW6 : W ≤ 6 := by rw [hW]; split; exact hun _ _; omega
    have loop : ∀ k c (f' : Nat → Nat → Int32) (x5 x6 : Option Value), c + k = n → Fc part f f' → (∃ o, Pk (Vd n np cm aw ea) (scd n np pts) ((q * n + c) * n ^ m) o ∧ SR f' n np pts o) → Ev E (d + m + 1 + 1) zm_X0_castFrom 61 [some (.ref 38), some (.int (nI part)), some (.int (iI S)), some (.int (nI W)), some (.int (nI c)), x5, x6] [] (HP (f', t)) (fun r h => ∃ z', h = HP z' ∧ cfP n np part q (m + 1) ea cm aw pts f t r z') := by
      intro k
      induction k with
      | zero =>
        intro c f' x5 x6 hc hF hP
        have e : c = n := by omega
        subst e
        have h4 : f' 38 4 = nI c := by rw [hF.2.1 4 (by decide)]; exact hD.2.1
        rw [e_X0_castFrom_61]
        simp only [↓e_X0_castFrom_4, ↓e_X0_castFrom_10, ↓e_X0_castFrom_15, ↓e_X0_castFrom_20, ↓e_X0_castFrom_21, ↓e_X0_castFrom_25, ↓e_X0_castFrom_28, ↓e_X0_castFrom_33, ↓e_X0_castFrom_35, ↓e_X0_castFrom_40, ↓e_X0_castFrom_43, ↓e_X0_castFrom_44, ↓e_X0_castFrom_49, ↓e_X0_castFrom_52, ↓e_X0_castFrom_57, ↓e_X0_castFrom_58, ↓e_X0_castFrom_67, ↓e_X0_castFrom_70, ↓e_X0_castFrom_76, ↓e_X0_castFrom_79, ↓e_X0_castFrom_83, ↓e_X0_castFrom_86, ↓e_X0_castFrom_90, ↓e_X0_castFrom_92, ↓e_X0_castFrom_96, ↓e_X0_castFrom_100, ↓e_X0_castFrom_103, ↓e_X0_castFrom_109, ↓e_X0_castFrom_118, ↓e_X0_castFrom_122, ↓e_X0_castFrom_126, ↓e_X0_castFrom_131, ↓e_X0_castFrom_135, ↓e_X0_castFrom_139, ↓e_X0_castFrom_145, ↓e_X0_castFrom_146, ↓e_X0_castFrom_157, ↓e_X0_castFrom_165, ↓e_X0_castFrom_171, ↓e_X0_castFrom_175, ↓e_X0_castFrom_180, ↓e_X0_castFrom_186, g0 o0_38, Nat.reduceAdd, h4, nI_lt_iff (show c < 2 ^ 31 by omega) (show c < 2 ^ 31 by omega), Nat.lt_irrefl, ↓reduceIte]
        obtain ⟨o', p1, p2⟩ := hP
        refine ⟨(f', t), rfl, rfl, rfl, hF, o', ?_, p2⟩
        rw [pow_blk] at p1
        rw [Nat.add_mul, Nat.one_mul, Nat.pow_succ c m, Nat.mul_comm (c ^ m) c, ← Nat.mul_comm (c ^ m) c, ← Nat.pow_succ]
        rw [Nat.mul_comm c (c ^ m), ← Nat.pow_succ] at p1
        exact p1
      | succ k ihk =>
        intro c f' x5 x6 hck hF hP
        have hc : c < n := by omega
        have hn0 : 0 < n := by omega
        obtain ⟨o', p1, p2⟩ := hP
        have h4 : f' 38 4 = nI n := by rw [hF.2.1 4 (by decide)]; exact hD.2.1
        have h5 : f' 38 5 = aw := by rw [hF.2.1 5 (by decide)]; exact hD.2.2.1
        have h6 : f' 38 6 = nI ea := by rw [hF.2.1 6 (by decide)]; exact hD.2.2.2.1
        have h44 : f' 44 = f 44 := hF.1 44 (by decide) (by decide) (by decide)
        have h42 : f' 42 part = cm part := by rw [hF.1 42 (by decide) (by decide) (by decide)]; exact hD.2.2.2.2.2.2 part (by omega)
        have h40 : f' 40 (6 * part + c) = iI (pts part c) := by rw [hF.1 40 (by decide) (by decide) (by decide)]; exact hD.2.2.2.2.1 part (by omega) c hc
        have hDl : dg n (part + 1) (q * n + c) part = c := dg_last hc
        have hDp : ∀ p, p < part → dg n (part + 1) (q * n + c) p = dg n part q p := fun p hp => dg_ext hc hp
        have e6 : nI part * 6 + nI c = nI (6 * part + c) := by
          have : nI part * 6 = nI (part * 6) := nI_mul part 6
          rw [this, nI_add, Nat.mul_comm]
        have blkD : ∀ j, (q * n + c) * n ^ m ≤ j → j < (q * n + c + 1) * n ^ m → (∀ p, p < part → dg n np j p = dg n part q p) ∧ dg n np j part = c := fun j j1 j2 => by
          have hb : j / n ^ (np - (part + 1)) = q * n + c := by rw [show np - (part + 1) = m by omega]; exact blk_of j1 j2
          exact ⟨fun p hp => by rw [dg_blk hb (by omega) (by omega), hDp p hp], by rw [dg_blk hb (by omega) (by omega), hDl]⟩
        have hB : (q * n + c) * n ^ m ≤ (q * n + c + 1) * n ^ m := Nat.mul_le_mul_right _ (by omega)
        have hlt : (nI c < nI n) = True := eq_true (nI_lt hc (by omega))
        by_cases haw : nI c = aw
        · have hskip : Pk (Vd n np cm aw ea) (scd n np pts) ((q * n + c + 1) * n ^ m) o' := Pk_skip p1 hB (fun j j1 j2 hv => by
            have := (hv.2.1 part (by omega))
            rw [(blkD j j1 j2).2] at this
            exact absurd haw this)
          rw [e_X0_castFrom_61]
          have haw' : (nI c = aw) = True := eq_true haw
          simp only [↓e_X0_castFrom_4, ↓e_X0_castFrom_10, ↓e_X0_castFrom_15, ↓e_X0_castFrom_20, ↓e_X0_castFrom_21, ↓e_X0_castFrom_25, ↓e_X0_castFrom_28, ↓e_X0_castFrom_33, ↓e_X0_castFrom_35, ↓e_X0_castFrom_40, ↓e_X0_castFrom_43, ↓e_X0_castFrom_44, ↓e_X0_castFrom_49, ↓e_X0_castFrom_52, ↓e_X0_castFrom_57, ↓e_X0_castFrom_58, ↓e_X0_castFrom_67, ↓e_X0_castFrom_70, ↓e_X0_castFrom_76, ↓e_X0_castFrom_79, ↓e_X0_castFrom_83, ↓e_X0_castFrom_86, ↓e_X0_castFrom_90, ↓e_X0_castFrom_92, ↓e_X0_castFrom_96, ↓e_X0_castFrom_100, ↓e_X0_castFrom_103, ↓e_X0_castFrom_109, ↓e_X0_castFrom_118, ↓e_X0_castFrom_122, ↓e_X0_castFrom_126, ↓e_X0_castFrom_131, ↓e_X0_castFrom_135, ↓e_X0_castFrom_139, ↓e_X0_castFrom_145, ↓e_X0_castFrom_146, ↓e_X0_castFrom_157, ↓e_X0_castFrom_165, ↓e_X0_castFrom_171, ↓e_X0_castFrom_175, ↓e_X0_castFrom_180, ↓e_X0_castFrom_186, g0 o0_38, Nat.reduceAdd, h4, h5, hlt, haw', zk_i, zk_r, zk_n, nI_1, ↓reduceIte]
          exact ihk (c + 1) f' x5 x6 (by omega) hF ⟨o', hskip, p2⟩
        · by_cases hcl : f' 44 c &&& cm part = 0
          · -- it is tried
            have hfree : ∀ b, b < part → dg n part q b = c → bt (cm part) b = false := fun b hb e => by
              have h1 := (b_nz.mp hcl) b (by omega)
              rw [b_and, h44, hpre.2 c hc b (by omega), decide_eq_true hb, decide_eq_true e, Bool.true_and, Bool.true_and] at h1
              exact h1
            obtain ⟨f2, hf2⟩ : ∃ g : Nat → Nat → Int32, g = set2 (set2 f' 44 c (f' 44 c ||| (1 <<< (nI part &&& 31)))) 43 part (nI c) := ⟨_, rfl⟩
            have r2 : ∀ r, r ≠ 44 → r ≠ 43 → f2 r = f' r := fun r h1 h2 => by rw [hf2, set2_a h2, set2_a h1]
            have hD2 : Dt f2 n np cm aw ea pts ce := Dt_c (f := f) (fun i hi => by rw [r2 38 (by decide) (by decide), hF.2.1 i hi]) (fun r h1 h2 => by rw [r2 r (by omega) (by omega), hF.1 r (by omega) (by omega) (by omega)]) hD
            have hpre2 : Pre f2 n (part + 1) (q * n + c) := by
              refine ⟨fun p hp => ?_, fun c' hc' p hp => ?_⟩
              · by_cases e : p = part
                · subst e
                  rw [hf2, set2_s, hDl]
                · rw [hf2, set2_n (Or.inr e), set2_a (by decide), hF.2.2 p (by omega), hpre.1 p (by omega), hDp p (by omega)]
              · have e44 : f2 44 c' = if c' = c then f 44 c ||| (1 <<< (nI part &&& 31)) else f 44 c' := by
                  rw [hf2, set2_a (by decide)]
                  by_cases e : c' = c
                  · subst e
                    rw [set2_s, if_pos rfl, h44]
                  · rw [set2_n (Or.inr e), if_neg e, h44]
                rw [e44]
                by_cases e : c' = c
                · subst e
                  rw [if_pos rfl, b_or, hpre.2 c' hc' p hp, b_one (by omega) hp]
                  by_cases ep : p = part
                  · subst ep
                    rw [hDl]
                    simp
                  · by_cases lt : p < part
                    · rw [hDp p lt]
                      simp [lt, ep, show p < part + 1 by omega]
                    · simp [lt, ep, show ¬ p < part + 1 by omega]
                · rw [if_neg e, hpre.2 c' hc' p hp]
                  by_cases ep : p = part
                  · subst ep
                    rw [hDl]
                    simp [Ne.symm e]
                  · by_cases lt : p < part
                    · rw [hDp p lt]
                      simp [lt, show p < part + 1 by omega]
                    · simp [lt, show ¬ p < part + 1 by omega]
            have hv1' : ∀ a, a < part + 1 → ∀ b, b < a → dg n (part + 1) (q * n + c) a = dg n (part + 1) (q * n + c) b → bt (cm a) b = false := fun a ha b hba e => by
              by_cases ea' : a = part
              · subst ea'
                rw [hDl, hDp b hba] at e
                exact hfree b hba e.symm
              · rw [hDp a (by omega), hDp b (by omega)] at e
                exact hv1 a (by omega) b hba e
            have hv2' : ∀ a, a < part + 1 → nI (dg n (part + 1) (q * n + c) a) ≠ aw := fun a ha => by
              by_cases ea' : a = part
              · subst ea'
                rw [hDl]
                exact haw
              · rw [hDp a (by omega)]
                exact hv2 a (by omega)
            have hSR2 : SR f2 n np pts o' := SR_c (r2 38 (by decide) (by decide)) (r2 39 (by decide) (by decide)) p2
            obtain ⟨r, z3, ⟨hr, ht, hF3, o3, p3, s3⟩, e3⟩ := Hr_use (ih (part + 1) (q * n + c) f2 t (by omega) (Or.inl hn0) hD2 hpre2 hv1' hv2' ⟨o', p1, hSR2⟩)
            subst hr
            have eS : sm (fun p => pts p (dg n (part + 1) (q * n + c) p)) (part + 1) = S + pts part c := by
              show sm (fun p => pts p (dg n (part + 1) (q * n + c) p)) part + pts part (dg n (part + 1) (q * n + c) part) = _
              rw [hDl, hS, sm_congr part (fun p hp => by rw [hDp p hp])]
            have hst := un_step n part (dg n (part + 1) (q * n + c))
            rw [hDl, un_congr (n := n) hDp] at hst
            have hfr : fr (dg n (part + 1) (q * n + c)) part c = true ↔ f' 44 c = 0 := by
              rw [fr_t, b_nz, h44]
              constructor
              · intro h1 i hi
                rw [hpre.2 c hc i hi]
                by_cases lt : i < part
                · have := h1 i lt
                  rw [hDp i lt] at this
                  simp [Ne.symm this]
                · simp [lt]
              · intro h1 p hp e
                have := h1 p (by omega)
                have e' : dg n part q p = c := by rw [← hDp p hp]; exact e.symm
                rw [hpre.2 c hc p (by omega), decide_eq_true hp, decide_eq_true e'] at this
                exact absurd this (by decide)
            rw [eS] at e3
            obtain ⟨f4, hf4⟩ : ∃ g : Nat → Nat → Int32, g = set2 z3.1 44 c (f' 44 c) := ⟨_, rfl⟩
            have hF4 : Fc part f f4 := by
              refine ⟨fun r h1 h2 h3 => ?_, fun i hi => ?_, fun p hp => ?_⟩
              · by_cases e : r = 44
                · subst e
                  funext x
                  rw [hf4]
                  by_cases ex : x = c
                  · subst ex
                    rw [set2_s, h44]
                  · rw [set2_n (Or.inr ex), hF3.1 44 (by decide) (by decide) (by decide), hf2, set2_a (by decide), set2_n (Or.inr ex), h44]
                · rw [hf4, set2_a e, hF3.1 r h1 h2 h3, r2 r e h3, hF.1 r h1 h2 h3]
              · rw [hf4, set2_a (by decide), hF3.2.1 i hi, r2 38 (by decide) (by decide), hF.2.1 i hi]
              · rw [hf4, set2_a (by decide), hF3.2.2 p (by omega), hf2, set2_n (Or.inr (by omega)), set2_a (by decide), hF.2.2 p hp]
            have hSR4 : SR f4 n np pts o3 := SR_c (by rw [hf4, set2_a (by decide)]) (by rw [hf4, set2_a (by decide)]) s3
            have fin := fun x5 x6 => ihk (c + 1) f4 x5 x6 (by omega) hF4 ⟨o3, p3, hSR4⟩
            rw [hf2] at e3
            by_cases hb0 : f' 44 c = 0
            · rw [if_pos ⟨hc, hfr.mpr hb0⟩] at hst
              replace hb0 : (f' 44 c = 0) = True := eq_true hb0
              by_cases he : ea = 1
              · subst he
                rw [if_pos rfl] at hW e3
                have eW : W = un n (part + 1) (dg n (part + 1) (q * n + c)) + 1 := by omega
                have e1 : nI 1 = 1 := rfl
                rw [e1] at h6
                have eW2 : nI W - 1 = nI (un n (part + 1) (dg n (part + 1) (q * n + c))) := by rw [eW, nI_pred]
                rw [e_X0_castFrom_61]
                simp only [↓e_X0_castFrom_4, ↓e_X0_castFrom_10, ↓e_X0_castFrom_15, ↓e_X0_castFrom_20, ↓e_X0_castFrom_21, ↓e_X0_castFrom_25, ↓e_X0_castFrom_28, ↓e_X0_castFrom_33, ↓e_X0_castFrom_35, ↓e_X0_castFrom_40, ↓e_X0_castFrom_43, ↓e_X0_castFrom_44, ↓e_X0_castFrom_49, ↓e_X0_castFrom_52, ↓e_X0_castFrom_57, ↓e_X0_castFrom_58, ↓e_X0_castFrom_67, ↓e_X0_castFrom_70, ↓e_X0_castFrom_76, ↓e_X0_castFrom_79, ↓e_X0_castFrom_83, ↓e_X0_castFrom_86, ↓e_X0_castFrom_90, ↓e_X0_castFrom_92, ↓e_X0_castFrom_96, ↓e_X0_castFrom_100, ↓e_X0_castFrom_103, ↓e_X0_castFrom_109, ↓e_X0_castFrom_118, ↓e_X0_castFrom_122, ↓e_X0_castFrom_126, ↓e_X0_castFrom_131, ↓e_X0_castFrom_135, ↓e_X0_castFrom_139, ↓e_X0_castFrom_145, ↓e_X0_castFrom_146, ↓e_X0_castFrom_157, ↓e_X0_castFrom_165, ↓e_X0_castFrom_171, ↓e_X0_castFrom_175, ↓e_X0_castFrom_180, ↓e_X0_castFrom_186, g0 o0_38, v0 o0_38, Nat.reduceAdd, h4, h5, h6, h42, h40, hlt, haw, hcl, hb0, eW2, e6, iI_add, nI_1, ri_k i44 (show c < 6 by omega) (by decide), ri_k i42 (show part < 6 by omega) (by decide), ri_k i40 (show 6 * part + c < 36 by omega) (by decide), wi_k i44 (show c < 6 by omega) (by decide), wi_k i43 (show part < 6 by omega) (by decide), set2_a (show (42 : Nat) ≠ 44 by decide), set2_a (show (40 : Nat) ≠ 43 by decide), set2_a (show (40 : Nat) ≠ 44 by decide), set2_a (show (38 : Nat) ≠ 43 by decide), set2_a (show (38 : Nat) ≠ 44 by decide), e3, zps_n, zk_i, zk_r, zk_n, ↓reduceIte]
                rw [ht, ← hf4]
                exact fin _ _
              · rw [if_neg he] at hW e3
                have h60 : (f' 38 6 = 1) = False := by
                  rw [h6, show ea = 0 by omega]
                  exact i10
                rw [← hW] at e3
                rw [e_X0_castFrom_61]
                simp only [↓e_X0_castFrom_4, ↓e_X0_castFrom_10, ↓e_X0_castFrom_15, ↓e_X0_castFrom_20, ↓e_X0_castFrom_21, ↓e_X0_castFrom_25, ↓e_X0_castFrom_28, ↓e_X0_castFrom_33, ↓e_X0_castFrom_35, ↓e_X0_castFrom_40, ↓e_X0_castFrom_43, ↓e_X0_castFrom_44, ↓e_X0_castFrom_49, ↓e_X0_castFrom_52, ↓e_X0_castFrom_57, ↓e_X0_castFrom_58, ↓e_X0_castFrom_67, ↓e_X0_castFrom_70, ↓e_X0_castFrom_76, ↓e_X0_castFrom_79, ↓e_X0_castFrom_83, ↓e_X0_castFrom_86, ↓e_X0_castFrom_90, ↓e_X0_castFrom_92, ↓e_X0_castFrom_96, ↓e_X0_castFrom_100, ↓e_X0_castFrom_103, ↓e_X0_castFrom_109, ↓e_X0_castFrom_118, ↓e_X0_castFrom_122, ↓e_X0_castFrom_126, ↓e_X0_castFrom_131, ↓e_X0_castFrom_135, ↓e_X0_castFrom_139, ↓e_X0_castFrom_145, ↓e_X0_castFrom_146, ↓e_X0_castFrom_157, ↓e_X0_castFrom_165, ↓e_X0_castFrom_171, ↓e_X0_castFrom_175, ↓e_X0_castFrom_180, ↓e_X0_castFrom_186, g0 o0_38, v0 o0_38, Nat.reduceAdd, h4, h5, h42, h40, hlt, haw, hcl, hb0, h60, e6, iI_add, nI_1, ri_k i44 (show c < 6 by omega) (by decide), ri_k i42 (show part < 6 by omega) (by decide), ri_k i40 (show 6 * part + c < 36 by omega) (by decide), wi_k i44 (show c < 6 by omega) (by decide), wi_k i43 (show part < 6 by omega) (by decide), set2_a (show (42 : Nat) ≠ 44 by decide), set2_a (show (40 : Nat) ≠ 43 by decide), set2_a (show (40 : Nat) ≠ 44 by decide), set2_a (show (38 : Nat) ≠ 43 by decide), set2_a (show (38 : Nat) ≠ 44 by decide), e3, zps_n, zk_i, zk_r, zk_n, ↓reduceIte]
                rw [ht, ← hf4]
                exact fin _ _
            · rw [if_neg (fun x => hb0 (hfr.mp x.2))] at hst
              have eW : (if ea = 1 then un n (part + 1) (dg n (part + 1) (q * n + c)) else 0) = W := by
                rw [hW]
                split
                · omega
                · rfl
              rw [eW] at e3
              rw [e_X0_castFrom_61]
              simp only [↓e_X0_castFrom_4, ↓e_X0_castFrom_10, ↓e_X0_castFrom_15, ↓e_X0_castFrom_20, ↓e_X0_castFrom_21, ↓e_X0_castFrom_25, ↓e_X0_castFrom_28, ↓e_X0_castFrom_33, ↓e_X0_castFrom_35, ↓e_X0_castFrom_40, ↓e_X0_castFrom_43, ↓e_X0_castFrom_44, ↓e_X0_castFrom_49, ↓e_X0_castFrom_52, ↓e_X0_castFrom_57, ↓e_X0_castFrom_58, ↓e_X0_castFrom_67, ↓e_X0_castFrom_70, ↓e_X0_castFrom_76, ↓e_X0_castFrom_79, ↓e_X0_castFrom_83, ↓e_X0_castFrom_86, ↓e_X0_castFrom_90, ↓e_X0_castFrom_92, ↓e_X0_castFrom_96, ↓e_X0_castFrom_100, ↓e_X0_castFrom_103, ↓e_X0_castFrom_109, ↓e_X0_castFrom_118, ↓e_X0_castFrom_122, ↓e_X0_castFrom_126, ↓e_X0_castFrom_131, ↓e_X0_castFrom_135, ↓e_X0_castFrom_139, ↓e_X0_castFrom_145, ↓e_X0_castFrom_146, ↓e_X0_castFrom_157, ↓e_X0_castFrom_165, ↓e_X0_castFrom_171, ↓e_X0_castFrom_175, ↓e_X0_castFrom_180, ↓e_X0_castFrom_186, g0 o0_38, v0 o0_38, Nat.reduceAdd, h4, h5, h6, h42, h40, hlt, haw, hcl, hb0, e6, iI_add, nI_1, ri_k i44 (show c < 6 by omega) (by decide), ri_k i42 (show part < 6 by omega) (by decide), ri_k i40 (show 6 * part + c < 36 by omega) (by decide), wi_k i44 (show c < 6 by omega) (by decide), wi_k i43 (show part < 6 by omega) (by decide), set2_a (show (42 : Nat) ≠ 44 by decide), set2_a (show (40 : Nat) ≠ 43 by decide), set2_a (show (40 : Nat) ≠ 44 by decide), set2_a (show (38 : Nat) ≠ 43 by decide), set2_a (show (38 : Nat) ≠ 44 by decide), e3, zps_n, zk_i, zk_r, zk_n, ↓reduceIte]
              rw [ht, ← hf4]
              exact fin _ _
          · -- it clashes
            have hskip : Pk (Vd n np cm aw ea) (scd n np pts) ((q * n + c + 1) * n ^ m) o' := Pk_skip p1 hB (fun j j1 j2 hv => by
              refine absurd (b_nz.mpr (fun i hi => ?_)) hcl
              rw [b_and, h44, hpre.2 c hc i hi]
              by_cases lt : i < part
              · by_cases e : dg n part q i = c
                · have hb := hv.1 part (by omega) i lt (by rw [(blkD j j1 j2).2, (blkD j j1 j2).1 i lt, e])
                  rw [hb, Bool.and_false]
                · simp [e]
              · simp [lt])
            rw [e_X0_castFrom_61]
            simp only [↓e_X0_castFrom_4, ↓e_X0_castFrom_10, ↓e_X0_castFrom_15, ↓e_X0_castFrom_20, ↓e_X0_castFrom_21, ↓e_X0_castFrom_25, ↓e_X0_castFrom_28, ↓e_X0_castFrom_33, ↓e_X0_castFrom_35, ↓e_X0_castFrom_40, ↓e_X0_castFrom_43, ↓e_X0_castFrom_44, ↓e_X0_castFrom_49, ↓e_X0_castFrom_52, ↓e_X0_castFrom_57, ↓e_X0_castFrom_58, ↓e_X0_castFrom_67, ↓e_X0_castFrom_70, ↓e_X0_castFrom_76, ↓e_X0_castFrom_79, ↓e_X0_castFrom_83, ↓e_X0_castFrom_86, ↓e_X0_castFrom_90, ↓e_X0_castFrom_92, ↓e_X0_castFrom_96, ↓e_X0_castFrom_100, ↓e_X0_castFrom_103, ↓e_X0_castFrom_109, ↓e_X0_castFrom_118, ↓e_X0_castFrom_122, ↓e_X0_castFrom_126, ↓e_X0_castFrom_131, ↓e_X0_castFrom_135, ↓e_X0_castFrom_139, ↓e_X0_castFrom_145, ↓e_X0_castFrom_146, ↓e_X0_castFrom_157, ↓e_X0_castFrom_165, ↓e_X0_castFrom_171, ↓e_X0_castFrom_175, ↓e_X0_castFrom_180, ↓e_X0_castFrom_186, g0 o0_38, Nat.reduceAdd, h4, h5, h42, hlt, haw, hcl, ri_k i44 (show c < 6 by omega) (by decide), ri_k i42 (show part < 6 by omega) (by decide), zk_i, zk_r, zk_n, nI_1, ↓reduceIte]
            exact ihk (c + 1) f' x5 x6 (by omega) hF ⟨o', hskip, p2⟩
    have := loop n 0 f none none (by omega) (Fc_id _ _) ⟨o, by rw [Nat.add_zero, Nat.mul_assoc, Nat.mul_comm n, ← Nat.pow_succ]; exact hPk, hSR⟩
    rw [nI_0] at this
    exact this
