/-! CastSearch: findWithout, changes -/
def hotI (z : zS) (p c : Nat) : Int := fitI z p c - (if z.1 130 (18 + p) = nI c then 0 else 1000)
theorem x_findWithout (E : zE) (d : Nat) {z : zS} {np nc ns nl ny ch ea : Nat} (h : RT z.1 1 0 np nc ns nl ny ch ea) (aw : Int32) : Hr E (d + 9) 2 [.ref 38, .ref 1, .int aw] z (fun r z' => ∃ o : Option Nat, r = some (.int (bI o.isSome)) ∧ z'.2 = z.2 ∧ (∀ r, r < 38 ∨ 44 < r → z'.1 r = z.1 r) ∧ Pk (Vd nc np (lcrow z np ns ch) aw 0) (scd nc np (hotI z)) (nc ^ np) o ∧ SR z'.1 nc np (hotI z) o) := by
  obtain ⟨hc, hm, hn⟩ := rt_F h
  have n1 : np < 2 ^ 31 := by omega
  have n2 : nc < 2 ^ 31 := by omega
  obtain ⟨f, ep, h3, h4, h5, h6, h42, h44, hfr⟩ := x_prep E (d + 3) h aw (nI 0)
  rw [nI_0] at ep
  obtain ⟨G, hG⟩ : ∃ G : Nat → Int32, G = itr (fun p g => itr (fun c g => upd g (6 * p + c) (iI (hotI z p c))) nc g) np (f 40) := ⟨_, rfl⟩
  have rG : ∀ (g : Nat → Int32) r, r ≠ 40 → setR f 40 g r = f r := fun g r hr => setR_n hr _ _
  have rz : ∀ (g : Nat → Int32) r, r < 38 → setR f 40 g r = z.1 r := fun g r hr => by rw [rG g r (by omega), hfr r (by omega) (by omega) (by omega)]
  have hD : D0 (setR f 40 G) nc np (lcrow z np ns ch) aw 0 (hotI z) := by
    refine ⟨by rw [rG _ 38 (by decide)]; exact h3, by rw [rG _ 38 (by decide)]; exact h4, by rw [rG _ 38 (by decide)]; exact h5, by rw [rG _ 38 (by decide)]; exact h6, fun p hp c hc => ?_, fun p hp => by rw [rG _ 42 (by decide)]; exact h42 p hp, fun c hc => by rw [rG _ 44 (by decide)]; exact h44 c hc⟩
    rw [setR_s, hG, pts_all (fun p c => iI (hotI z p c)) (by omega) _ np p c hp hc]
  obtain ⟨r, z3, ⟨o, hr, ht, hf3, p3, s3⟩, e3⟩ := Hr_use (x_search E d (t := z.2) hn.2.1 hn.1 (by decide) (fun p hp c hc => by
    have := (q_fitI h hc hp).2.2
    unfold hotI
    split <;> omega) hD)
  unfold Hr
  generalize hQ : (fun (r : Option Value) (h : zH) => ∃ z', h = HP z' ∧ ∃ o : Option Nat, r = some (.int (bI o.isSome)) ∧ z'.2 = z.2 ∧ (∀ r, r < 38 ∨ 44 < r → z'.1 r = z.1 r) ∧ Pk (Vd nc np (lcrow z np ns ch) aw 0) (scd nc np (hotI z)) (nc ^ np) o ∧ SR z'.1 nc np (hotI z) o) = Q
  have e0 : iI 0 = 0 := by decide
  have e1000 : iI 1000 = 1000 := by decide
  have inn : ∀ i, i < np → ∀ (g : Nat → Int32) (x : Option Value), ∃ x', Ev E (d + 9) zm_X0_findWithout 20 [some (.ref 38), some (.ref 1), some (.int aw), some (.int (nI i)), some (.int 0), x] [] (HP (setR f 40 g, z.2)) Q = Ev E (d + 9) zm_X0_findWithout 20 [some (.ref 38), some (.ref 1), some (.int aw), some (.int (nI i)), some (.int (nI nc)), x'] [] (HP (setR f 40 (itr (fun c g => upd g (6 * i + c) (iI (hotI z i c))) nc g), z.2)) Q := fun i hi g x => by
    have inner := itr_ex (fun j g (x : Option Value) => Ev E (d + 9) zm_X0_findWithout 20 [some (.ref 38), some (.ref 1), some (.int aw), some (.int (nI i)), some (.int (nI j)), x] [] (HP (setR f 40 g, z.2)) Q) (fun c g => upd g (6 * i + c) (iI (hotI z i c))) g nc (fun j x hj => ⟨some (.int (if z.1 130 (18 + i) = nI j then 0 else 1000)), by
      generalize itr _ j _ = g
      have e6 : nI i * 6 + nI j = nI (6 * i + j) := by
        have : nI i * 6 = nI (i * 6) := nI_mul i 6
        rw [this, nI_add, Nat.mul_comm]
      have hfit := s_fitOf isS_2 (z := (setR f 40 g, z.2)) (wfS_c (z := z) (o := 2) (rz g 2 (by decide)) (rt_wf h)) E (d + 6) (nI j) (nI i)
      rw [fitZ_c (z := z) (rz g), (q_fitI h hj hi).1] at hfit
      have e14 : setR f 40 g 14 i = z.1 130 (18 + i) := by rw [rz g 14 (by decide)]; exact (rt_P h hi).2.2.2.1
      show Ev E (d + 9) zm_X0_findWithout 20 _ _ _ _ = _
      by_cases q : z.1 130 (18 + i) = nI j
      · have q' : (z.1 130 (18 + i) = nI j) = True := eq_true q
        have eh : iI (fitI z i j) - 0 = iI (hotI z i j) := by
          unfold hotI
          rw [if_pos q, ← e0, iI_sub]
        rw [e_X0_findWithout_20]
        simp only [↓e_X0_findWithout_7, ↓e_X0_findWithout_14, ↓e_X0_findWithout_17, ↓e_X0_findWithout_26, ↓e_X0_findWithout_29, ↓e_X0_findWithout_33, ↓e_X0_findWithout_35, ↓e_X0_findWithout_40, ↓e_X0_findWithout_44, ↓e_X0_findWithout_47, ↓e_X0_findWithout_53, ↓e_X0_findWithout_64, ↓e_X0_findWithout_70, ↓e_X0_findWithout_74, ↓e_X0_findWithout_80, ↓e_X0_findWithout_86, ↓e_X0_findWithout_90, g0 o0_38, g7 o7_1, v6 o6_2, Nat.reduceAdd, rG g 38 (by decide), h4, e6, hfit, e14, q', eh, ri_k i14 (show i < 6 by omega) (by decide), wi_k i40 (show 6 * i + j < 36 by omega) (by decide), set2_R, setR_s, setR_2, zps_s, zk_i, zk_r, zk_n, nI_lt_iff (show j < 2 ^ 31 by omega) n2, hj, ↓reduceIte, nI_1]
      · have eh : iI (fitI z i j) - 1000 = iI (hotI z i j) := by
          unfold hotI
          rw [if_neg q, ← e1000, iI_sub]
        rw [e_X0_findWithout_20]
        simp only [↓e_X0_findWithout_7, ↓e_X0_findWithout_14, ↓e_X0_findWithout_17, ↓e_X0_findWithout_26, ↓e_X0_findWithout_29, ↓e_X0_findWithout_33, ↓e_X0_findWithout_35, ↓e_X0_findWithout_40, ↓e_X0_findWithout_44, ↓e_X0_findWithout_47, ↓e_X0_findWithout_53, ↓e_X0_findWithout_64, ↓e_X0_findWithout_70, ↓e_X0_findWithout_74, ↓e_X0_findWithout_80, ↓e_X0_findWithout_86, ↓e_X0_findWithout_90, g0 o0_38, g7 o7_1, v6 o6_2, Nat.reduceAdd, rG g 38 (by decide), h4, e6, hfit, e14, q, eh, ri_k i14 (show i < 6 by omega) (by decide), wi_k i40 (show 6 * i + j < 36 by omega) (by decide), set2_R, setR_s, setR_2, zps_s, zk_i, zk_r, zk_n, nI_lt_iff (show j < 2 ^ 31 by omega) n2, hj, ↓reduceIte, nI_1]⟩) x
    obtain ⟨x', e⟩ := inner
    rw [nI_0] at e
    exact ⟨x', e⟩
  have loop := itr_junk (fun i (g : Nat → Int32) (x : Option Value × Option Value) => Ev E (d + 9) zm_X0_findWithout 9 [some (.ref 38), some (.ref 1), some (.int aw), some (.int (nI i)), x.1, x.2] [] (HP (setR f 40 g, z.2)) Q) (fun p g => itr (fun c g => upd g (6 * p + c) (iI (hotI z p c))) nc g) (f 40) np (fun i x hi => by
    generalize itr _ i _ = g
    obtain ⟨x', e⟩ := inn i hi g x.2
    refine ⟨(some (.int (nI nc)), x'), ?_⟩
    show Ev E (d + 9) zm_X0_findWithout 9 _ _ _ _ = _
    rw [e_X0_findWithout_9]
    simp only [↓e_X0_findWithout_7, ↓e_X0_findWithout_14, ↓e_X0_findWithout_17, ↓e_X0_findWithout_26, ↓e_X0_findWithout_29, ↓e_X0_findWithout_33, ↓e_X0_findWithout_35, ↓e_X0_findWithout_40, ↓e_X0_findWithout_44, ↓e_X0_findWithout_47, ↓e_X0_findWithout_53, ↓e_X0_findWithout_64, ↓e_X0_findWithout_70, ↓e_X0_findWithout_74, ↓e_X0_findWithout_80, ↓e_X0_findWithout_86, ↓e_X0_findWithout_90, g0 o0_38, Nat.reduceAdd, rG g 38 (by decide), h3, zk_i, zk_r, zk_n, nI_lt_iff (show i < 2 ^ 31 by omega) n1, hi, ↓reduceIte]
    rw [e, e_X0_findWithout_20]
    simp only [↓e_X0_findWithout_7, ↓e_X0_findWithout_14, ↓e_X0_findWithout_17, ↓e_X0_findWithout_26, ↓e_X0_findWithout_29, ↓e_X0_findWithout_33, ↓e_X0_findWithout_35, ↓e_X0_findWithout_40, ↓e_X0_findWithout_44, ↓e_X0_findWithout_47, ↓e_X0_findWithout_53, ↓e_X0_findWithout_64, ↓e_X0_findWithout_70, ↓e_X0_findWithout_74, ↓e_X0_findWithout_80, ↓e_X0_findWithout_86, ↓e_X0_findWithout_90, g0 o0_38, Nat.reduceAdd, rG _ 38 (show (38 : Nat) ≠ 40 by decide), h4, zk_i, zk_r, zk_n, nI_lt_iff n2 n2, Nat.lt_irrefl, nI_1, ↓reduceIte]) (R := Q (some (.int (bI o.isSome))) (HP z3)) (fun x => by
    show Ev E (d + 9) zm_X0_findWithout 9 _ _ _ _ = _
    rw [← hG, e_X0_findWithout_9]
    simp only [↓e_X0_findWithout_7, ↓e_X0_findWithout_14, ↓e_X0_findWithout_17, ↓e_X0_findWithout_26, ↓e_X0_findWithout_29, ↓e_X0_findWithout_33, ↓e_X0_findWithout_35, ↓e_X0_findWithout_40, ↓e_X0_findWithout_44, ↓e_X0_findWithout_47, ↓e_X0_findWithout_53, ↓e_X0_findWithout_64, ↓e_X0_findWithout_70, ↓e_X0_findWithout_74, ↓e_X0_findWithout_80, ↓e_X0_findWithout_86, ↓e_X0_findWithout_90, g0 o0_38, v0 o0_38, Nat.reduceAdd, rG G 38 (by decide), h3, e3, hr, zps_s, bI_01, true_and, zk_i, zk_r, zk_n, nI_lt_iff n1 n1, Nat.lt_irrefl, ↓reduceIte])
  simp only [↓c_X0_findWithout, ↓e_X0_findWithout_0, ↓e_X0_findWithout_7, ↓e_X0_findWithout_14, ↓e_X0_findWithout_17, ↓e_X0_findWithout_26, ↓e_X0_findWithout_29, ↓e_X0_findWithout_33, ↓e_X0_findWithout_35, ↓e_X0_findWithout_40, ↓e_X0_findWithout_44, ↓e_X0_findWithout_47, ↓e_X0_findWithout_53, ↓e_X0_findWithout_64, ↓e_X0_findWithout_70, ↓e_X0_findWithout_74, ↓e_X0_findWithout_80, ↓e_X0_findWithout_86, ↓e_X0_findWithout_90, v0 o0_38, Nat.reduceAdd, ep, zps_n, zk_i, zk_r, zk_n]
  have l0 := loop (none, none)
  rw [nI_0, setR_id] at l0
  rw [l0, ← hQ]
  exact ⟨z3, rfl, o, rfl, ht, fun r hr => by rw [hf3 r hr, rG G r (by omega), hfr r (by omega) (by omega) (by omega)], p3, s3⟩
/-- how many parts another one has -/
def chN (z : zS) (D : Nat → Nat) (np : Nat) : Nat := cnt (fun p => !decide (z.1 130 (18 + p) = nI (D p))) np
theorem x_changes (E : zE) (d : Nat) {z z' : zS} {np nc ns nl ny ch ea : Nat} (h : RT z.1 1 0 np nc ns nl ny ch ea) (hz : ∀ r, r < 38 → z'.1 r = z.1 r) {D : Nat → Nat} (hD : ∀ p, p < np → z'.1 39 p = nI (D p)) (K : Option Value → zH → Prop) : Cl E d 3 [.ref 38, .ref 1] (HP z') K = K (some (.int (nI (chN z D np)))) (HP z') := by
  obtain ⟨hc, hm, hn⟩ := rt_F h
  have n1 : np < 2 ^ 31 := by omega
  have i39 : isI 39 6 := rfl
  have e2 : z'.1 2 0 = nI np := by rw [hz 2 (by decide)]; exact hc.1
  have loop := itr_eq (fun i (s : Nat) => Ev E d zm_X0_changes 4 [some (.ref 38), some (.ref 1), some (.int (nI s)), some (.int (nI i))] [] (HP z') K) (fun p s => s + (if (!decide (z.1 130 (18 + p) = nI (D p))) = true then 1 else 0)) 0 np (fun i hi => by
    generalize itr _ i _ = s
    have e14 : z'.1 14 i = z.1 130 (18 + i) := by rw [hz 14 (by decide)]; exact (rt_P h hi).2.2.2.1
    by_cases q : z.1 130 (18 + i) = nI (D i)
    · have q' : (nI (D i) = z.1 130 (18 + i)) = True := eq_true q.symm
      rw [e_X0_changes_4]
      simp only [↓e_X0_changes_9, ↓e_X0_changes_12, ↓e_X0_changes_15, ↓e_X0_changes_21, ↓e_X0_changes_25, ↓e_X0_changes_27, ↓e_X0_changes_31, ↓e_X0_changes_33, ↓e_X0_changes_36, ↓e_X0_changes_39, ↓e_X0_changes_45, g0 o0_38, g7 o7_1, g6 o6_2, Nat.reduceAdd, e2, e14, hD i hi, q', ri_k i39 (show i < 6 by omega) (by decide), ri_k i14 (show i < 6 by omega) (by decide), lt_lit (n := 6) (x := 6) (by decide) (show i < 2 ^ 31 by omega) (by decide), show i < 6 by omega, zk_i, zk_r, zk_n, nI_lt_iff (show i < 2 ^ 31 by omega) n1, hi, ↓reduceIte, nI_1]
      rw [decide_eq_true q]
      rfl
    · have q' : (nI (D i) = z.1 130 (18 + i)) = False := eq_false (fun e => q e.symm)
      rw [e_X0_changes_4]
      simp only [↓e_X0_changes_9, ↓e_X0_changes_12, ↓e_X0_changes_15, ↓e_X0_changes_21, ↓e_X0_changes_25, ↓e_X0_changes_27, ↓e_X0_changes_31, ↓e_X0_changes_33, ↓e_X0_changes_36, ↓e_X0_changes_39, ↓e_X0_changes_45, g0 o0_38, g7 o7_1, g6 o6_2, Nat.reduceAdd, e2, e14, hD i hi, q', ri_k i39 (show i < 6 by omega) (by decide), ri_k i14 (show i < 6 by omega) (by decide), lt_lit (n := 6) (x := 6) (by decide) (show i < 2 ^ 31 by omega) (by decide), show i < 6 by omega, zk_i, zk_r, zk_n, nI_lt_iff (show i < 2 ^ 31 by omega) n1, hi, ↓reduceIte, nI_1]
      rw [decide_eq_false q]
      rfl)
  have ec : ∀ n, itr (fun p s => s + (if (!decide (z.1 130 (18 + p) = nI (D p))) = true then 1 else 0)) n 0 = chN z D n := fun n => by
    induction n with
    | zero => rfl
    | succ n ih =>
      rw [itr_s, ih]
      rfl
  rw [nI_0, ec] at loop
  simp only [↓c_X0_changes, ↓e_X0_changes_0, ↓e_X0_changes_9, ↓e_X0_changes_12, ↓e_X0_changes_15, ↓e_X0_changes_21, ↓e_X0_changes_25, ↓e_X0_changes_27, ↓e_X0_changes_31, ↓e_X0_changes_33, ↓e_X0_changes_36, ↓e_X0_changes_39, ↓e_X0_changes_45, zk_i, zk_r, zk_n]
  rw [loop, e_X0_changes_4]
  simp only [↓e_X0_changes_9, ↓e_X0_changes_12, ↓e_X0_changes_15, ↓e_X0_changes_21, ↓e_X0_changes_25, ↓e_X0_changes_27, ↓e_X0_changes_31, ↓e_X0_changes_33, ↓e_X0_changes_36, ↓e_X0_changes_39, ↓e_X0_changes_45, g7 o7_1, g6 o6_2, Nat.reduceAdd, e2, nI_lt_iff n1 n1, Nat.lt_irrefl, ↓reduceIte]
