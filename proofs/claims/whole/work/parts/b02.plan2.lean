/-! PLAN: planFrom goes over all rows -/
def Fp (day : Nat) (f f' : Nat → Nat → Int32) : Prop := (∀ r, r ≠ 45 → r ≠ 46 → r ≠ 47 → ¬ (53 + day ≤ r ∧ r ≤ 56) → f' r = f r) ∧ (∀ i, 4 ≤ i → f' 45 i = f 45 i) ∧ ∀ i, i < day → f' 47 i = f 47 i
theorem Dp_c {f f' : Nat → Nat → Int32} {z : zS} {np nc ns m dd : Nat} (h1 : ∀ i, 4 ≤ i → f' 45 i = f 45 i) (h2 : ∀ r, r = 48 ∨ r = 49 ∨ r = 50 ∨ r = 57 → f' r = f r) (h : Dp f z np nc ns m dd) : Dp f' z np nc ns m dd := by
  unfold Dp
  rw [h1 4 (by decide), h1 5 (by decide), h1 6 (by decide), h2 48 (by decide), h2 49 (by decide), h2 50 (by decide), h2 57 (by decide)]
  exact h
def pfP (z : zS) (np nc ns m dd day q m' : Nat) (f : Nat → Nat → Int32) (t : (Nat → Nat → Int64) × Nat) (r : Option Value) (z' : zS) : Prop := r = none ∧ z'.2 = t ∧ Fp day f z'.1 ∧ ∃ o, Pk (fun _ => True) (scP z np nc ns m dd) ((q + 1) * ns ^ m') o ∧ SP z'.1 z np nc ns m dd o
set_option maxRecDepth 100000 in
theorem x_plf (E : zE) (d : Nat) {z : zS} {np nc ns nl ny ch ea : Nat} (h : RT z.1 1 0 np nc ns nl ny ch ea) {m dd : Nat} (hm : m ≤ 40) (hdd : dd ≤ 4) (hns : 0 < ns) : ∀ m' day q (f : Nat → Nat → Int32) (t : (Nat → Nat → Int64) × Nat), day + m' = dd → Dp f z np nc ns m dd → (∀ i, i < day → f 47 i = nI (dg ns day q i)) → (∀ p, p < np → f (52 + day) p = nI (KD z m (dg ns day q) day p)) → (∃ o, Pk (fun _ => True) (scP z np nc ns m dd) (q * ns ^ m') o ∧ SP f z np nc ns m dd o) → Hr E (d + m' + 2) 39 [.ref 45, .int (nI day), .int (nI (siS z np nc (dg ns day q) day))] (f, t) (pfP z np nc ns m dd day q m' f t) := by
  obtain ⟨hc, hmm, hn⟩ := rt_F h
  have n1 : np < 2 ^ 31 := by omega
  have n2 : ns < 2 ^ 31 := by omega
  intro m'
  induction m' with
  | zero =>
    intro day q f t hdm hD h47 hk ⟨o, hPk, hSP⟩
    have e : day = dd := by omega
    subst e
    rw [Nat.pow_zero, Nat.mul_one] at hPk
    have ss := siS_le (z := z) (np := np) hn.2.1 (D := dg ns day q) day
    have ll := lsK_le z (KD z m (dg ns day q) day) np
    have lk := x_leastKnown E d (f := f) (t := t) (z := z) (day := day) hn.1 (by omega) (k := KD z m (dg ns day q) day) hD.2.2.1 hD.2.2.2.2.2.1 (fun p hp => ⟨hk p hp, KD_le h hp day⟩)
    have e4 : ((4 : Int32) < nI day) = False := eq_false (nI_nlt (a := 4) (by omega) (by decide))
    unfold Hr
    generalize hQ : (fun (r : Option Value) (h : zH) => ∃ z' : zS, h = HP z' ∧ pfP z np nc ns m day day q 0 f t r z') = Q
    have take : (∀ j, o = some j → scP z np nc ns m day j < scP z np nc ns m day q) → Q none (HP (kpP f (lsK z np (KD z m (dg ns day q) day)) (siS z np nc (dg ns day q) day), t)) := fun hlt => by
      rw [← hQ]
      refine ⟨_, rfl, rfl, rfl, ⟨fun r h1 h2 h3 h4 => ?_, fun i hi => ?_, fun i hi => ?_⟩, some q, ?_, ?_, ?_, ?_, fun i hi => ?_⟩
      · unfold kpP
        dsimp only
        rw [setR_n h2, set2_a h1, set2_a h1, set2_a h1]
      · unfold kpP
        dsimp only
        rw [setR_n (by decide), set2_n (Or.inr (by omega)), set2_n (Or.inr (by omega)), set2_n (Or.inr (by omega))]
      · unfold kpP
        dsimp only
        rw [setR_n (by decide), set2_a (by decide), set2_a (by decide), set2_a (by decide)]
      · rw [Nat.pow_zero, Nat.mul_one]
        exact Pk_take hPk trivial hlt
      · unfold kpP
        dsimp only
        rw [setR_n (by decide), set2_n (Or.inr (by decide)), set2_n (Or.inr (by decide)), set2_s]
      · unfold kpP
        dsimp only
        rw [setR_n (by decide), set2_n (Or.inr (by decide)), set2_s]
      · unfold kpP
        dsimp only
        rw [setR_n (by decide), set2_s]
      · unfold kpP
        dsimp only
        rw [setR_s, itr_updv (f 47), if_pos (by omega)]
        exact h47 i hi
    have skip : (∃ j, o = some j ∧ scP z np nc ns m day q ≤ scP z np nc ns m day j) → Q none (HP (f, t)) := fun hle => by
      rw [← hQ]
      refine ⟨(f, t), rfl, rfl, rfl, ⟨fun _ _ _ _ _ => rfl, fun _ _ => rfl, fun _ _ => rfl⟩, o, ?_, hSP⟩
      rw [Nat.pow_zero, Nat.mul_one]
      exact Pk_skip hPk (by omega) (fun k k1 k2 _ => by
        have e : k = q := by omega
        subst e
        exact hle)
    have cmp : Cl E (d + 1) 41 [.ref 45, .int (nI (lsK z np (KD z m (dg ns day q) day))), .int (nI (siS z np nc (dg ns day q) day))] (HP (f, t)) Q := by
      cases o with
      | none => exact x_compare E (d + 1) (l0 := 0) (s0 := 0) (by omega) (by omega) (Or.inl hSP) Q (fun _ => take (fun j q => by cases q)) (fun q => by rw [show f 45 3 = 0 from hSP] at q; exact absurd q (by decide))
      | some j =>
        have sj := siS_le (z := z) (np := np) hn.2.1 (D := dg ns day j) day
        have lj := lsK_le z (KD z m (dg ns day j) day) np
        have e1 : scP z np nc ns m day j = 100 * (lsK z np (KD z m (dg ns day j) day) : Int) - (siS z np nc (dg ns day j) day : Int) := rfl
        have e2 : scP z np nc ns m day q = 100 * (lsK z np (KD z m (dg ns day q) day) : Int) - (siS z np nc (dg ns day q) day : Int) := rfl
        exact x_compare E (d + 1) (l0 := lsK z np (KD z m (dg ns day j) day)) (s0 := siS z np nc (dg ns day j) day) (by omega) (by omega) (Or.inr ⟨hSP.1, hSP.2.1, hSP.2.2.1, by omega, by omega⟩) Q (fun q => take (fun j' q' => by
          cases q'
          have := q hSP.1
          omega)) (fun _ q => skip ⟨j, rfl, by omega⟩)
    have ecl := cmp
    obtain ⟨r0, h0, hq0, ek⟩ := Cl_det ecl
    have post : ∀ K, Cl E (d + 1) 41 [.ref 45, .int (nI (lsK z np (KD z m (dg ns day q) day))), .int (nI (siS z np nc (dg ns day q) day))] (HP (f, t)) K = K r0 h0 := ek
    have hr0 : r0 = none := by
      rw [← hQ] at hq0
      obtain ⟨_, _, hr, _⟩ := hq0
      exact hr
    subst hr0
    simp only [↓c_X4_planFrom, ↓e_X4_planFrom_0, ↓e_X4_planFrom_4, ↓e_X4_planFrom_9, ↓e_X4_planFrom_10, ↓e_X4_planFrom_15, ↓e_X4_planFrom_18, ↓e_X4_planFrom_24, ↓e_X4_planFrom_28, ↓e_X4_planFrom_29, ↓e_X4_planFrom_36, ↓e_X4_planFrom_39, ↓e_X4_planFrom_44, ↓e_X4_planFrom_53, ↓e_X4_planFrom_56, ↓e_X4_planFrom_60, ↓e_X4_planFrom_62, ↓e_X4_planFrom_65, ↓e_X4_planFrom_69, ↓e_X4_planFrom_77, ↓e_X4_planFrom_80, ↓e_X4_planFrom_86, ↓e_X4_planFrom_90, ↓e_X4_planFrom_98, ↓e_X4_planFrom_101, ↓e_X4_planFrom_104, ↓e_X4_planFrom_105, ↓e_X4_planFrom_111, ↓e_X4_planFrom_115, ↓e_X4_planFrom_118, ↓e_X4_planFrom_127, ↓e_X4_planFrom_129, ↓e_X4_planFrom_133, ↓e_X4_planFrom_139, nI_neg (show day < 2 ^ 31 by omega), e4, g4 o4_45, v4 o4_45, Nat.reduceAdd, hD.1, lk, post, zps_s, zps_n, zk_i, zk_r, zk_n, ↓reduceIte]
    exact hq0
  | succ m' ih =>
    intro day q f t hdm hD h47 hk ⟨o, hPk, hSP⟩
    have e4 : ((4 : Int32) < nI day) = False := eq_false (nI_nlt (a := 4) (by omega) (by decide))
    have ed : (nI day = nI dd) = False := eq_false (fun q => by have := (nI_eq (by omega) (by omega)).mp q; omega)
    obtain ⟨S, hS⟩ : ∃ S, S = siS z np nc (dg ns day q) day := ⟨_, rfl⟩
    rw [← hS]
    unfold Hr
    generalize hQ : (fun (r : Option Value) (h : zH) => ∃ z' : zS, h = HP z' ∧ pfP z np nc ns m dd day q (m' + 1) f t r z') = Q
    have loop : ∀ k s (f' : Nat → Nat → Int32) (x4 x5 : Option Value), s + k = ns → Fp day f f' → (∃ o, Pk (fun _ => True) (scP z np nc ns m dd) ((q * ns + s) * ns ^ m') o ∧ SP f' z np nc ns m dd o) → Ev E (d + m' + 3) zm_X4_planFrom 31 [some (.ref 45), some (.int (nI day)), some (.int (nI S)), some (.int (nI s)), x4, x5] [] (HP (f', t)) Q := by
      intro k
      induction k with
      | zero =>
        intro s f' x4 x5 hs hF hP
        have e : s = ns := by omega
        subst e
        have h5 : f' 45 5 = nI s := by rw [hF.2.1 5 (by decide)]; exact hD.2.1
        have q0 : Q none (HP (f', t)) := by
          rw [← hQ]
          obtain ⟨o', p1, p2⟩ := hP
          refine ⟨(f', t), rfl, rfl, rfl, hF, o', ?_, p2⟩
          rw [pow_blk, Nat.mul_comm s (s ^ m'), ← Nat.pow_succ] at p1
          rw [Nat.add_mul, Nat.one_mul]
          exact p1
        rw [e_X4_planFrom_31]
        simp only [↓e_X4_planFrom_4, ↓e_X4_planFrom_9, ↓e_X4_planFrom_10, ↓e_X4_planFrom_15, ↓e_X4_planFrom_18, ↓e_X4_planFrom_24, ↓e_X4_planFrom_28, ↓e_X4_planFrom_29, ↓e_X4_planFrom_36, ↓e_X4_planFrom_39, ↓e_X4_planFrom_44, ↓e_X4_planFrom_53, ↓e_X4_planFrom_56, ↓e_X4_planFrom_60, ↓e_X4_planFrom_62, ↓e_X4_planFrom_65, ↓e_X4_planFrom_69, ↓e_X4_planFrom_77, ↓e_X4_planFrom_80, ↓e_X4_planFrom_86, ↓e_X4_planFrom_90, ↓e_X4_planFrom_98, ↓e_X4_planFrom_101, ↓e_X4_planFrom_104, ↓e_X4_planFrom_105, ↓e_X4_planFrom_111, ↓e_X4_planFrom_115, ↓e_X4_planFrom_118, ↓e_X4_planFrom_127, ↓e_X4_planFrom_129, ↓e_X4_planFrom_133, ↓e_X4_planFrom_139, g4 o4_45, Nat.reduceAdd, h5, nI_lt_iff n2 n2, Nat.lt_irrefl, ↓reduceIte]
        exact q0
      | succ k ihk =>
        intro s f' x4 x5 hsk hF hP
        have hs : s < ns := by omega
        obtain ⟨o', p1, p2⟩ := hP
        have hD' : Dp f' z np nc ns m dd := Dp_c hF.2.1 (fun r hr => hF.1 r (by omega) (by omega) (by omega) (by omega)) hD
        have hDl : dg ns (day + 1) (q * ns + s) day = s := dg_last hs
        have hDp : ∀ i, i < day → dg ns (day + 1) (q * ns + s) i = dg ns day q i := fun i hi => dg_ext hs hi
        have hk' : ∀ p, p < np → f' (52 + day) p = nI (KD z m (dg ns day q) day p) := fun p hp => by rw [hF.1 (52 + day) (by omega) (by omega) (by omega) (by omega)]; exact hk p hp
        -- what is known on the evening, and after the night
        have inner := itr_ex (fun i (g : Nat → Int32) (x : Option Value) => Ev E (d + m' + 3) zm_X4_planFrom 47 [some (.ref 45), some (.int (nI day)), some (.int (nI S)), some (.int (nI s)), some (.int (nI i)), x] [] (HP (setR f' (53 + day) g, t)) Q) (fun p g => upd g p (nI (kS z m s (KD z m (dg ns day q) day) p))) (f' (53 + day)) np (fun i x hi => ⟨some (.int (nI (min 100 (KD z m (dg ns day q) day i + lnN z s m i)))), by
          generalize itr _ i _ = g
          have r1 : ∀ r, r ≠ 53 + day → setR f' (53 + day) g r = f' r := fun r hr => setR_n hr _ _
          have e6 : nI s * 6 + nI i = nI (6 * s + i) := by
            have : nI s * 6 = nI (s * 6) := nI_mul s 6
            rw [this, nI_add, Nat.mul_comm]
          have a45 : setR f' (53 + day) g 45 6 = nI np := by rw [r1 45 (by omega)]; exact hD'.2.2.1
          have a52 : setR f' (53 + day) g (52 + day) i = nI (KD z m (dg ns day q) day i) := by rw [r1 (52 + day) (by omega)]; exact hk' i hi
          have a48 : setR f' (53 + day) g 48 (6 * s + i) = nI (lnN z s m i) := by rw [r1 48 (by omega)]; exact hD'.2.2.2.1 s hs i hi
          have a49 : setR f' (53 + day) g 49 i = nI (fdN z i) := by rw [r1 49 (by omega)]; exact hD'.2.2.2.2.1 i hi
          have kw := x_knownWith E (d + m' + 1) (a := KD z m (dg ns day q) day i) (b := lnN z s m i) (KD_le h hi day) (q_ln h hi hs hm).2
          have kn := x_knownAfterNight E (d + m' + 2) (a := min 100 (KD z m (dg ns day q) day i + lnN z s m i)) (b := fdN z i) (Nat.min_le_left _ _) (q_fd h hi).2
          have e53 : 52 + (day + 1) = 53 + day := by omega
          show Ev E (d + m' + 3) zm_X4_planFrom 47 _ _ _ _ = _
          rw [e_X4_planFrom_47]
          simp only [↓e_X4_planFrom_4, ↓e_X4_planFrom_9, ↓e_X4_planFrom_10, ↓e_X4_planFrom_15, ↓e_X4_planFrom_18, ↓e_X4_planFrom_24, ↓e_X4_planFrom_28, ↓e_X4_planFrom_29, ↓e_X4_planFrom_36, ↓e_X4_planFrom_39, ↓e_X4_planFrom_44, ↓e_X4_planFrom_53, ↓e_X4_planFrom_56, ↓e_X4_planFrom_60, ↓e_X4_planFrom_62, ↓e_X4_planFrom_65, ↓e_X4_planFrom_69, ↓e_X4_planFrom_77, ↓e_X4_planFrom_80, ↓e_X4_planFrom_86, ↓e_X4_planFrom_90, ↓e_X4_planFrom_98, ↓e_X4_planFrom_101, ↓e_X4_planFrom_104, ↓e_X4_planFrom_105, ↓e_X4_planFrom_111, ↓e_X4_planFrom_115, ↓e_X4_planFrom_118, ↓e_X4_planFrom_127, ↓e_X4_planFrom_129, ↓e_X4_planFrom_133, ↓e_X4_planFrom_139, g4 o4_45, Nat.reduceAdd, a45, ra51 (show day < 5 by omega), ra51 (show day + 1 < 5 by omega), e53, nI_1, e6, ri_k (ik (show day < 5 by omega)) (show i < 6 by omega) (by decide), ri_k i48 (show 6 * s + i < 42 by omega) (by decide), ri_k i49 (show i < 6 by omega) (by decide), a52, a48, a49, kw, kn, zps_s, zk_i, zk_r, zk_n, nI_lt_iff (show i < 2 ^ 31 by omega) n1, hi, ↓reduceIte]
          have wk := fun (zz : zS) (x : Int32) (K : zH → Prop) => wi_k (ik (show day + 1 < 5 by omega)) (show i < 6 by omega) (by decide) zz x K
          simp only [e53] at wk
          simp only [wk, ↓e_X4_planFrom_4, ↓e_X4_planFrom_9, ↓e_X4_planFrom_10, ↓e_X4_planFrom_15, ↓e_X4_planFrom_18, ↓e_X4_planFrom_24, ↓e_X4_planFrom_28, ↓e_X4_planFrom_29, ↓e_X4_planFrom_36, ↓e_X4_planFrom_39, ↓e_X4_planFrom_44, ↓e_X4_planFrom_53, ↓e_X4_planFrom_56, ↓e_X4_planFrom_60, ↓e_X4_planFrom_62, ↓e_X4_planFrom_65, ↓e_X4_planFrom_69, ↓e_X4_planFrom_77, ↓e_X4_planFrom_80, ↓e_X4_planFrom_86, ↓e_X4_planFrom_90, ↓e_X4_planFrom_98, ↓e_X4_planFrom_101, ↓e_X4_planFrom_104, ↓e_X4_planFrom_105, ↓e_X4_planFrom_111, ↓e_X4_planFrom_115, ↓e_X4_planFrom_118, ↓e_X4_planFrom_127, ↓e_X4_planFrom_129, ↓e_X4_planFrom_133, ↓e_X4_planFrom_139, set2_R, setR_s, setR_2, zk_i, zk_r, zk_n, nI_1]
          rfl⟩) x5
        obtain ⟨x', einner⟩ := inner
        rw [nI_0, setR_id] at einner
        obtain ⟨G, hG⟩ : ∃ G : Nat → Int32, G = itr (fun p g => upd g p (nI (kS z m s (KD z m (dg ns day q) day) p))) np (f' (53 + day)) := ⟨_, rfl⟩
        rw [← hG] at einner
        obtain ⟨f2, hf2⟩ : ∃ g : Nat → Nat → Int32, g = set2 (setR f' (53 + day) G) 47 day (nI s) := ⟨_, rfl⟩
        have r2 : ∀ r, r ≠ 53 + day → r ≠ 47 → f2 r = f' r := fun r h1 h2 => by rw [hf2, set2_a h2, setR_n h1]
        have hD2 : Dp f2 z np nc ns m dd := Dp_c (fun i _ => by rw [r2 45 (by omega) (by omega)]) (fun r hr => r2 r (by omega) (by omega)) hD'
        have h47' : ∀ i, i < day + 1 → f2 47 i = nI (dg ns (day + 1) (q * ns + s) i) := fun i hi => by
          by_cases e : i = day
          · subst e
            rw [hf2, set2_s, hDl]
          · rw [hf2, set2_n (Or.inr e), setR_n (by omega), hF.2.2 i (by omega), h47 i (by omega), hDp i (by omega)]
        have hk2 : ∀ p, p < np → f2 (52 + (day + 1)) p = nI (KD z m (dg ns (day + 1) (q * ns + s)) (day + 1) p) := fun p hp => by
          rw [show 52 + (day + 1) = 53 + day by omega, hf2, set2_a (by omega), setR_s, hG, itr_updv (fun p => nI (kS z m s (KD z m (dg ns day q) day) p)), if_pos hp]
          show _ = nI (kS z m (dg ns (day + 1) (q * ns + s) day) (KD z m (dg ns (day + 1) (q * ns + s)) day) p)
          rw [hDl, KD_congr day hDp]
        have hSP2 : SP f2 z np nc ns m dd o' := SP_c (r2 45 (by omega) (by decide)) (r2 46 (by omega) (by decide)) p2
        obtain ⟨r, z3, ⟨hr, ht, hF3, o3, p3, s3⟩, e3⟩ := Hr_use (ih (day + 1) (q * ns + s) f2 t (by omega) hD2 h47' hk2 ⟨o', p1, hSP2⟩)
        subst hr
        have eS : siS z np nc (dg ns (day + 1) (q * ns + s)) (day + 1) = S + siN z np nc s := by
          show siS z np nc (dg ns (day + 1) (q * ns + s)) day + siN z np nc (dg ns (day + 1) (q * ns + s) day) = _
          rw [hDl, siS_congr day hDp, hS]
        rw [eS] at e3
        have hF4 : Fp day f z3.1 := by
          refine ⟨fun r h1 h2 h3 h4 => ?_, fun i hi => ?_, fun i hi => ?_⟩
          · rw [hF3.1 r h1 h2 h3 (by omega), r2 r (by omega) h3, hF.1 r h1 h2 h3 h4]
          · rw [hF3.2.1 i hi, r2 45 (by omega) (by decide), hF.2.1 i hi]
          · rw [hF3.2.2 i (by omega), hf2, set2_n (Or.inr (by omega)), setR_n (by omega), hF.2.2 i hi]
        have fin := fun x4 x5 => ihk (s + 1) z3.1 x4 x5 (by omega) hF4 ⟨o3, p3, s3⟩
        rw [← ht] at fin
        have a45 : setR f' (53 + day) G 45 6 = nI np := by rw [setR_n (by omega)]; exact hD'.2.2.1
        have a57 : setR f' (53 + day) G 57 s = nI (siN z np nc s) := by rw [setR_n (by omega)]; exact hD'.2.2.2.2.2.2 s hs
        have a57' : set2 (setR f' (53 + day) G) 47 day (nI s) 57 s = nI (siN z np nc s) := by rw [set2_a (by decide)]; exact a57
        have h5 : f' 45 5 = nI ns := hD'.2.1
        have e4' : (nI day < (4 : Int32)) = True := eq_true (nI_lt (b := 4) (by omega) (by decide))
        rw [hf2] at e3
        rw [e_X4_planFrom_31]
        simp only [↓e_X4_planFrom_4, ↓e_X4_planFrom_9, ↓e_X4_planFrom_10, ↓e_X4_planFrom_15, ↓e_X4_planFrom_18, ↓e_X4_planFrom_24, ↓e_X4_planFrom_28, ↓e_X4_planFrom_29, ↓e_X4_planFrom_36, ↓e_X4_planFrom_39, ↓e_X4_planFrom_44, ↓e_X4_planFrom_53, ↓e_X4_planFrom_56, ↓e_X4_planFrom_60, ↓e_X4_planFrom_62, ↓e_X4_planFrom_65, ↓e_X4_planFrom_69, ↓e_X4_planFrom_77, ↓e_X4_planFrom_80, ↓e_X4_planFrom_86, ↓e_X4_planFrom_90, ↓e_X4_planFrom_98, ↓e_X4_planFrom_101, ↓e_X4_planFrom_104, ↓e_X4_planFrom_105, ↓e_X4_planFrom_111, ↓e_X4_planFrom_115, ↓e_X4_planFrom_118, ↓e_X4_planFrom_127, ↓e_X4_planFrom_129, ↓e_X4_planFrom_133, ↓e_X4_planFrom_139, g4 o4_45, Nat.reduceAdd, h5, e4', nI_lt_iff (show s < 2 ^ 31 by omega) n2, hs, zk_i, zk_r, zk_n, ↓reduceIte]
        rw [einner, e_X4_planFrom_47]
        simp only [↓e_X4_planFrom_4, ↓e_X4_planFrom_9, ↓e_X4_planFrom_10, ↓e_X4_planFrom_15, ↓e_X4_planFrom_18, ↓e_X4_planFrom_24, ↓e_X4_planFrom_28, ↓e_X4_planFrom_29, ↓e_X4_planFrom_36, ↓e_X4_planFrom_39, ↓e_X4_planFrom_44, ↓e_X4_planFrom_53, ↓e_X4_planFrom_56, ↓e_X4_planFrom_60, ↓e_X4_planFrom_62, ↓e_X4_planFrom_65, ↓e_X4_planFrom_69, ↓e_X4_planFrom_77, ↓e_X4_planFrom_80, ↓e_X4_planFrom_86, ↓e_X4_planFrom_90, ↓e_X4_planFrom_98, ↓e_X4_planFrom_101, ↓e_X4_planFrom_104, ↓e_X4_planFrom_105, ↓e_X4_planFrom_111, ↓e_X4_planFrom_115, ↓e_X4_planFrom_118, ↓e_X4_planFrom_127, ↓e_X4_planFrom_129, ↓e_X4_planFrom_133, ↓e_X4_planFrom_139, g4 o4_45, v4 o4_45, Nat.reduceAdd, a45, a57', nI_1, nI_add, wi_k i47 (show day < 4 by omega) (by decide), ri_k i57 (show s < 7 by omega) (by decide), e3, zps_n, nI_lt_iff n1 n1, Nat.lt_irrefl, zk_i, zk_r, zk_n, ↓reduceIte]
        exact fin _ _
    have start := loop ns 0 f none none (by omega) ⟨fun _ _ _ _ _ => rfl, fun _ _ => rfl, fun _ _ => rfl⟩ ⟨o, by rw [Nat.add_zero, Nat.mul_assoc, Nat.mul_comm ns, ← Nat.pow_succ]; exact hPk, hSP⟩
    rw [nI_0] at start
    simp only [↓c_X4_planFrom, ↓e_X4_planFrom_0, ↓e_X4_planFrom_4, ↓e_X4_planFrom_9, ↓e_X4_planFrom_10, ↓e_X4_planFrom_15, ↓e_X4_planFrom_18, ↓e_X4_planFrom_24, ↓e_X4_planFrom_28, ↓e_X4_planFrom_29, ↓e_X4_planFrom_36, ↓e_X4_planFrom_39, ↓e_X4_planFrom_44, ↓e_X4_planFrom_53, ↓e_X4_planFrom_56, ↓e_X4_planFrom_60, ↓e_X4_planFrom_62, ↓e_X4_planFrom_65, ↓e_X4_planFrom_69, ↓e_X4_planFrom_77, ↓e_X4_planFrom_80, ↓e_X4_planFrom_86, ↓e_X4_planFrom_90, ↓e_X4_planFrom_98, ↓e_X4_planFrom_101, ↓e_X4_planFrom_104, ↓e_X4_planFrom_105, ↓e_X4_planFrom_111, ↓e_X4_planFrom_115, ↓e_X4_planFrom_118, ↓e_X4_planFrom_127, ↓e_X4_planFrom_129, ↓e_X4_planFrom_133, ↓e_X4_planFrom_139, nI_neg (show day < 2 ^ 31 by omega), e4, g4 o4_45, Nat.reduceAdd, hD.1, ed, zk_i, zk_r, zk_n, ↓reduceIte]
    exact start
